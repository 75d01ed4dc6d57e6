/-! ===== the whole barn: its state, its cells ===== -/
abbrev Cls : Type := List (List Int × List Int)
abbrev BaS : Type := ((Int → Int) × Int) × (Int × (Int → LaS) × (Int → LaY)) × (Int × (Int → Cls)) × ((Int → Int → Int) × (Int → Int)) × ((Int → Int) × Int × Int × Int)
def bB (S : BaS) : Int → Int := S.1.1
def bN (S : BaS) : Int := S.1.2
def bLc (S : BaS) : Int := S.2.1.1
def bD (S : BaS) : Int → LaS := S.2.1.2.1
def bE (S : BaS) : Int → LaY := S.2.1.2.2
def bRc (S : BaS) : Int := S.2.2.1.1
def bR (S : BaS) : Int → Cls := S.2.2.1.2
def bRw (S : BaS) : Int → Int → Int := S.2.2.2.1.1
def bRl (S : BaS) : Int → Int := S.2.2.2.1.2
def bCe (S : BaS) : Int → Int := S.2.2.2.2.1
def bTo (S : BaS) : Int := S.2.2.2.2.2.1
def bSe (S : BaS) : Int := S.2.2.2.2.2.2.1
def bSp (S : BaS) : Int := S.2.2.2.2.2.2.2
def cfL (t : List Int) : Int → Int := fun j => t.getD j.toNat 0
def ruQ (R : Int → Cls) (E : LaY) : RU := if yRn E = -1 then none else some ((flC (R (yRn E))).length, cfL (flC (R (yRn E))))
def ruC (S : BaS) (l : Int) : RU := ruQ (bR S) (bE S l)
def owS (E : LaY) : Option Nm := if yRn E = -1 then none else some (60, yRn E)
def lnF (n : Int) : Int → Option Nm := fun i => if 0 ≤ i ∧ i < n then some (30, i) else none
def rnF (n : Int) : Int → Option Nm := fun i => if 0 ≤ i ∧ i < n then some (60, i) else none
def csOK (c : Cls) : Prop := (flC c).length ≤ 482 ∧ ∀ x ∈ flC c, inI x
def BOK (S : BaS) : Prop := TpOK (bB S) (bN S) ∧ (0 ≤ bLc S ∧ bLc S ≤ 6) ∧ (0 ≤ bRc S ∧ bRc S ≤ 6) ∧ (∀ l : Int, 0 ≤ l → l < bLc S → LOK (bD S l) ∧ YOK (bE S l) ∧ yRn (bE S l) < bRc S ∧ yOwn (bE S l) = owS (bE S l)) ∧ (∀ r : Int, 0 ≤ r → r < bRc S → csOK (bR S r)) ∧
  (∀ r : Int, 0 ≤ r → r ≤ 1 → 0 ≤ bRl S r ∧ bRl S r ≤ 40 ∧ ∀ x : Int, 0 ≤ x → x < 40 → 0 ≤ bRw S r x ∧ bRw S r x ≤ 20) ∧ (0 ≤ bTo S ∧ bTo S ≤ 2) ∧ 0 ≤ bSe S ∧ bSe S ≤ 40
def CoF (S : BaS) : List AV := [vR (1, 0), vR (3, 0), vR (9, 0), vR (11, 0), vR (12, 0), vR (13, 0), vR (15, 0), vR (16, 0), vR (18, 0), vR (20, 0), vR (20, 1), vI (bLc S), vI (bRc S)]
def CoA (h : AH) (S : BaS) : Prop := h (0, 0) = some (oO 9 (CoF S)) ∧ h (11, 0) = some (oA 3 6 (lnF (bLc S))) ∧ h (12, 0) = some (oA 4 6 (rnF (bRc S))) ∧ h (13, 0) = some (oA 5 2 (fun i => some (14, i))) ∧ h (14, 0) = some (oI 40 (bRw S 0)) ∧ h (14, 1) = some (oI 40 (bRw S 1)) ∧ h (15, 0) = some (oI 2 (bRl S)) ∧ h (18, 0) = some (oA 7 2 (fun i => some (19, i)))
def RdA (h : AH) : Prop := (∃ (i ff nu : Int) (X : DrS), LrO h i ff nu X ∧ LrA h X) ∧ ∃ (i ff cl : Int) (cf : Int → Int), RrO h i ff cl cf
def BaC (h : AH) (S : BaS) : Prop := CoA h S ∧ TpA h (bB S) (bN S) ∧ RdA h
def SpA (h : AH) : Prop := ∃ (b : Int) (f : Int → Int), SprAt h b f
def twO (o1 : Option Nm) (am ke br st pd : Int) (o2 : Option Nm) (fb : Int) : List AV := [vO o1, vI am, vI ke, vI br, vI st, vI pd, vO o2, vI fb]
def TwO (h : AH) (t : Int) : Prop := ∃ (o1 : Option Nm) (am ke br st pd : Int) (o2 : Option Nm) (fb : Int), h (19, t) = some (oO 8 (twO o1 am ke br st pd o2 fb))
def TwA (h : AH) : Prop := TwO h 0 ∧ TwO h 1
def StA (h : AH) (S : BaS) : Prop := h (20, 0) = some (oO 6 [vR (21, 0), vI (bTo S), vI (bSe S), vI (bSp S)]) ∧ h (21, 0) = some (oI 560 (bCe S)) ∧ ∃ (tc se sp : Int) (f : Int → Int), h (20, 1) = some (oO 6 [vR (21, 1), vI tc, vI se, vI sp]) ∧ h (21, 1) = some (oI 280 f)
def LdN (l : Int) (z : Nm) : Prop := (30 ≤ z.1 ∧ z.1 ≤ 40 ∧ z.2 = l) ∨ (50 ≤ z.1 ∧ z.1 ≤ 56 ∧ 6 * l ≤ z.2 ∧ z.2 ≤ 6 * l + 5)
def RlO (h : AH) (S : BaS) (r : Int) : Prop := ∃ (t : List Int) (lt : Int → Int), RuleAt h r (flC (bR S r)).length (cfL (flC (bR S r))) t lt ∧ t.length ≤ 64
def BaL (h : AH) (S : BaS) : Prop := (∀ l : Int, 0 ≤ l → l < bLc S → LandP h l (bD S l) (bE S l) (ruC S l)) ∧ (∀ l : Int, bLc S ≤ l → l < 6 → ∀ z : Nm, LdN l z → h z = none) ∧ (∀ r : Int, 0 ≤ r → r < bRc S → RlO h S r) ∧ ∀ r : Int, bRc S ≤ r → r < 6 → ∀ j : Nat, 60 ≤ j → j ≤ 63 → h (j, r) = none
def BarnAt (h : AH) (S : BaS) : Prop := BaC h S ∧ SpA h ∧ TwA h ∧ StA h S ∧ BaL h S ∧ BOK S
abbrev isBa : Nm → Prop := fun z => z.1 < 70
theorem LrO.fr {h h' : AH} {i ff nu : Int} {X : DrS} (q : h' (3, 0) = h (3, 0)) (a : LrO h i ff nu X) : LrO h' i ff nu X := q.trans a
theorem RrO.fr {h h' : AH} {i ff cl : Int} {cf : Int → Int} (q : h' (9, 0) = h (9, 0)) (q2 : h' (10, 0) = h (10, 0)) (a : RrO h i ff cl cf) : RrO h' i ff cl cf := ⟨q.trans a.1, q2.trans a.2⟩
theorem CoA.fr {h h' : AH} {S : BaS} (q : ∀ z : Nm, z.1 < 16 ∨ z.1 = 18 → h' z = h z) (a : CoA h S) : CoA h' S := by
  obtain ⟨a1, a2, a3, a4, a5, a6, a7, a8⟩ := a
  exact ⟨(q _ (Or.inl (by decide))).trans a1, (q _ (Or.inl (by decide))).trans a2, (q _ (Or.inl (by decide))).trans a3, (q _ (Or.inl (by decide))).trans a4, (q _ (Or.inl (by decide))).trans a5, (q _ (Or.inl (by decide))).trans a6, (q _ (Or.inl (by decide))).trans a7, (q _ (Or.inr rfl)).trans a8⟩
theorem RdA.fr {h h' : AH} (q : ∀ z : Nm, z.1 < 16 ∨ z.1 = 18 → h' z = h z) (a : RdA h) : RdA h' := by
  obtain ⟨⟨i, ff, nu, X, a1, a2⟩, i2, f2, c2, g2, a3⟩ := a
  exact ⟨⟨i, ff, nu, X, a1.fr (q _ (Or.inl (by decide))), a2.fr fun j z0 z1 => q _ (Or.inl (by show j < 16; omega))⟩, i2, f2, c2, g2, a3.fr (q _ (Or.inl (by decide))) (q _ (Or.inl (by decide)))⟩
theorem BaC.fr {h h' : AH} {S : BaS} (q : ∀ z : Nm, z.1 < 16 ∨ z.1 = 18 → h' z = h z) (a : BaC h S) : BaC h' S := ⟨a.1.fr q, a.2.1.fr (q _ (Or.inl (by decide))) (q _ (Or.inl (by decide))), a.2.2.fr q⟩
theorem SprAt.fr {h h' : AH} {b : Int} {f : Int → Int} (q : ∀ z : Nm, z.1 = 16 ∨ z.1 = 17 → h' z = h z) (a : SprAt h b f) : SprAt h' b f := by
  obtain ⟨a1, a2, a3, g, a4⟩ := a
  exact ⟨a1, (q _ (Or.inl rfl)).trans a2, (q _ (Or.inr rfl)).trans a3, g, (q _ (Or.inr rfl)).trans a4⟩
theorem SpA.fr {h h' : AH} (q : ∀ z : Nm, z.1 = 16 ∨ z.1 = 17 → h' z = h z) (a : SpA h) : SpA h' := by
  obtain ⟨b, f, a⟩ := a
  exact ⟨b, f, a.fr q⟩
theorem TwA.fr {h h' : AH} (q : ∀ z : Nm, z.1 = 19 → h' z = h z) (a : TwA h) : TwA h' := by
  obtain ⟨⟨b1, b2, b3, b4, b5, b6, b7, b8, b9⟩, c1, c2, c3, c4, c5, c6, c7, c8, c9⟩ := a
  exact ⟨⟨b1, b2, b3, b4, b5, b6, b7, b8, (q _ rfl).trans b9⟩, c1, c2, c3, c4, c5, c6, c7, c8, (q _ rfl).trans c9⟩
theorem StA.fr {h h' : AH} {S : BaS} (q : ∀ z : Nm, z.1 = 20 ∨ z.1 = 21 → h' z = h z) (a : StA h S) : StA h' S := by
  obtain ⟨a1, a2, c1, c2, c3, c4, c5, c6⟩ := a
  exact ⟨(q _ (Or.inl rfl)).trans a1, (q _ (Or.inr rfl)).trans a2, c1, c2, c3, c4, (q _ (Or.inl rfl)).trans c5, (q _ (Or.inr rfl)).trans c6⟩
theorem RlO.fr {h h' : AH} {S : BaS} {r : Int} (q : ∀ j : Nat, 60 ≤ j → j ≤ 63 → h' (j, r) = h (j, r)) (a : RlO h S r) : RlO h' S r := by
  obtain ⟨t, lt, a1, a2⟩ := a
  exact ⟨t, lt, a1.fr q, a2⟩
theorem BaL.fr {h h' : AH} {S : BaS} (q : ∀ z : Nm, 30 ≤ z.1 ∧ z.1 ≤ 63 → h' z = h z) (a : BaL h S) : BaL h' S := by
  obtain ⟨a1, a2, a3, a4⟩ := a
  refine ⟨fun l l0 l1 => (a1 l l0 l1).fr fun z hz => q z (by rcases hz with hz | hz <;> omega), fun l l0 l1 z hz => (q z (by rcases hz with hz | hz <;> omega)).trans (a2 l l0 l1 z hz), fun r r0 r1 => (a3 r r0 r1).fr fun j j0 j1 => q _ ⟨by show 30 ≤ j; omega, j1⟩, fun r r0 r1 j j0 j1 => (q _ ⟨by show 30 ≤ j; omega, j1⟩).trans (a4 r r0 r1 j j0 j1)⟩
theorem BarnAt.fr {h h' : AH} {S : BaS} (q : ∀ z : Nm, z.1 < 70 → h' z = h z) (a : BarnAt h S) : BarnAt h' S := by
  obtain ⟨a1, a2, a3, a4, a5, a6⟩ := a
  exact ⟨a1.fr fun z hz => q z (by omega), a2.fr fun z hz => q z (by omega), a3.fr fun z hz => q z (by omega), a4.fr fun z hz => q z (by omega), a5.fr fun z hz => q z (by omega), a6⟩
theorem cfL_in {c : Cls} (hc : csOK c) (j : Int) (h1 : 0 ≤ j) (h2 : j < (flC c).length) : inI (cfL (flC c) j) := by
  unfold cfL
  rw [List.getD_eq_getElem?_getD, List.getElem?_eq_getElem (by omega)]
  exact hc.2 _ (List.getElem_mem _)
theorem BaL.ru {h : AH} {S : BaS} (a : BaL h S) (k : BOK S) {l : Int} (l0 : 0 ≤ l) (l1 : l < bLc S) : RuOK h (bE S l) (ruC S l) := by
  obtain ⟨k1, k2, k3, k4, k5, k6⟩ := k
  obtain ⟨hD, hE, hrn, how⟩ := k4 l l0 l1
  have hy := hE.2.2.2.2.2.2.2.1
  unfold RuOK ruC ruQ
  rw [how]
  unfold owS
  by_cases e : yRn (bE S l) = -1
  · rw [if_pos e, if_pos e]; exact Or.inl ⟨rfl, rfl⟩
  · rw [if_neg e, if_neg e]
    obtain ⟨t, lt, b1, b2⟩ := a.2.2.1 (yRn (bE S l)) (by omega) hrn
    have hq := k5 (yRn (bE S l)) (by omega) hrn
    have hq1 := hq.1
    exact Or.inr ⟨yRn (bE S l), _, rfl, rfl, by show (flC (bR S (yRn (bE S l)))).length < _; omega, fun j j0 j1 => cfL_in hq j j0 j1, t, lt, b1, b2⟩
/-- the plans of a land, and its own rule -/
def isLo (S : BaS) (l : Int) : Nm → Prop := fun z => z = (40, l) ∨ (50 ≤ z.1 ∧ z.1 ≤ 56 ∧ 6 * l ≤ z.2 ∧ z.2 ≤ 6 * l + 5) ∨ isOwn (bE S l) z
theorem BaL.plan {h h' : AH} {S : BaS} {l : Int} (a : BaL h S) (k : BOK S) (l0 : 0 ≤ l) (l1 : l < bLc S) (F : Fr (isLo S l) h h') (hP : LandP h' l (bD S l) (bE S l) (ruC S l)) (hR : RuOK h' (bE S l) (ruC S l)) : BaL h' S := by
  obtain ⟨k1, k2, k3, k4, k5, k6⟩ := k
  obtain ⟨hD, hE, hrn, how⟩ := k4 l l0 l1
  have hy := hE.2.2.2.2.2.2.2.1
  obtain ⟨a1, a2, a3, a4⟩ := a
  have ho : ∀ z : Nm, isOwn (bE S l) z → 60 ≤ z.1 ∧ z.1 ≤ 63 ∧ z.2 = yRn (bE S l) ∧ yRn (bE S l) ≠ -1 := fun z hz => by
    obtain ⟨rr, e1, e2⟩ := hz
    rw [how] at e1
    unfold owS at e1
    by_cases e : yRn (bE S l) = -1
    · rw [if_pos e] at e1; cases e1
    · rw [if_neg e] at e1
      have e3 : yRn (bE S l) = rr := by injection e1 with e1; injection e1
      subst e3
      rcases e2 with rfl | rfl | rfl <;> exact ⟨by simp, by simp, rfl, e⟩
  refine ⟨fun l' m0 m1 => ?_, fun l' m0 m1 z hz => ?_, fun r r0 r1 => ?_, fun r r0 r1 j j0 j1 => ?_⟩
  · by_cases e : l' = l
    · rw [e]; exact hP
    · refine (a1 l' m0 m1).fr fun z hz => F z fun y => ?_
      rcases y with y | y | y
      · rw [y] at hz; simp at hz; omega
      · rcases hz with hz | hz <;> omega
      · have := ho z y; rcases hz with hz | hz <;> omega
  · refine (F z fun y => ?_).trans (a2 l' m0 m1 z hz)
    rcases y with y | y | y
    · rw [y] at hz; unfold LdN at hz; simp at hz; omega
    · rcases hz with hz | hz <;> omega
    · have := ho z y; rcases hz with hz | hz <;> omega
  · by_cases e : yRn (bE S l) = r
    · unfold RuOK ruC ruQ at hR
      rw [how] at hR
      unfold owS at hR
      rw [if_neg (by omega), if_neg (by omega), e] at hR
      rcases hR with ⟨hR, -⟩ | ⟨rr, q, e1, e2, -, -, t, lt, b1, b2⟩
      · cases hR
      · cases e1
        cases e2
        exact ⟨t, lt, b1, b2⟩
    · refine (a3 r r0 r1).fr fun j j0 j1 => F (j, r) fun y => ?_
      rcases y with y | y | y
      · injection y with y1 y2; omega
      · have := y.2.1; simp at this; omega
      · have := (ho _ y).2.2.1; simp at this; omega
  · refine (F (j, r) fun y => ?_).trans (a4 r r0 r1 j j0 j1)
    rcases y with y | y | y
    · injection y with y1 y2; omega
    · have := y.2.1; simp at this; omega
    · have := (ho _ y).2.2.1; simp at this; omega
theorem isLo_lo {S : BaS} {l : Int} {z : Nm} (h : isLo S l z) : 30 ≤ z.1 ∧ z.1 ≤ 63 := by
  rcases h with h | h | h
  · rw [h]; simp
  · omega
  · have := isOwn_lo h; omega
theorem BarnAt.plan {h h' : AH} {S : BaS} {l : Int} (a : BarnAt h S) (l0 : 0 ≤ l) (l1 : l < bLc S) (F : Fr (isLo S l) h h') (hP : LandP h' l (bD S l) (bE S l) (ruC S l)) (hR : RuOK h' (bE S l) (ruC S l)) : BarnAt h' S := by
  obtain ⟨a1, a2, a3, a4, a5, a6⟩ := a
  have q : ∀ z : Nm, z.1 < 30 → h' z = h z := fun z hz => F z fun y => by have := isLo_lo y; omega
  exact ⟨a1.fr fun z hz => q z (by omega), a2.fr fun z hz => q z (by omega), a3.fr fun z hz => q z (by omega), a4.fr fun z hz => q z (by omega), a5.plan a6 l0 l1 F hP hR, a6⟩
/-- what the questions ask of their numbers -/
abbrev lnV (S : BaS) (l : Int) : Prop := 0 ≤ l ∧ l < bLc S
abbrev laV (S : BaS) (l n s a : Int) : Prop := lnV S l ∧ (1 ≤ n ∧ n ≤ 12) ∧ (0 ≤ s ∧ s < lSe (bD S l)) ∧ 0 ≤ a ∧ a ≤ 40
abbrev plV (S : BaS) (l sr n s a : Int) : Prop := laV S l n s a ∧ 0 ≤ sr ∧ sr ≤ 4
/-- a plan that was reckoned so far -/
abbrev isSp (S : BaS) (l sr : Int) : Nm → Prop := fun z => isSl l sr z ∨ isOwn (bE S l) z
def PlR (S : BaS) (l sr n s : Int) (h h' : AH) : Prop := ∃ (pl' : Int → Option Nm) (wf : Option Nm) (kf bf lf wl : Int → Int), LandX h' l (bD S l) (bE S l) (ruC S l) sr pl' ∧ PlnHas h' l (bD S l) (bE S l) (ruC S l) sr (lCo (bD S l)) wf kf bf lf wl ∧ n ≤ lf (laN (bD S l) (n - 1).toNat s) ∧ RuOK h' (bE S l) (ruC S l) ∧ Fr (isSp S l sr) h h'
theorem isSl_lo {S : BaS} {l sr : Int} (h0 : 0 ≤ sr) (h1 : sr ≤ 5) {z : Nm} (h : isSl l sr z) : isLo S l z := by
  rcases h with h | h
  · exact Or.inl h
  · exact Or.inr (Or.inl (by omega))
theorem isSp_lo {S : BaS} {l sr : Int} (h0 : 0 ≤ sr) (h1 : sr ≤ 5) {z : Nm} (h : isSp S l sr z) : isLo S l z := by
  rcases h with h | h
  · exact isSl_lo h0 h1 h
  · exact Or.inr (Or.inr h)
theorem isPl_sp {S : BaS} {l sr : Int} {z : Nm} (h : isPl (6 * l + sr) z ∨ isOwn (bE S l) z) : isSp S l sr z := by
  rcases h with h | h
  · refine Or.inl (Or.inr ?_)
    rcases h with rfl | rfl | rfl | rfl <;> simp
  · exact Or.inr h
theorem PlR.barn {S : BaS} {l sr n s : Int} {h h' : AH} (r : PlR S l sr n s h h') (a : BarnAt h S) (l0 : 0 ≤ l) (l1 : l < bLc S) (h0 : 0 ≤ sr) (h9 : sr ≤ 5) : BarnAt h' S := by
  obtain ⟨pl', wf, kf, bf, lf, wl, h1, h2, h3, h4, h5⟩ := r
  exact a.plan l0 l1 (h5.mono fun z zz => isSp_lo h0 h9 zz) (h1.join h2) h4
theorem isLo_ba {S : BaS} {l : Int} {z : Nm} (h : isLo S l z) : isBa z := by have := isLo_lo h; show z.1 < 70; omega
