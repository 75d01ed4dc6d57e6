/-! ===== a new land ===== -/
def PaQ (cn f : Int → Int) (j : Int) : Prop := 1 ≤ f j ∧ f j ≤ 99 ∧ ∀ q : Int, 1 ≤ q → q ≤ 99 → (q ≤ f j ↔ j < rgS cn q)
theorem PaQ.set {cn f : Int → Int} {p j : Int} (hcn : ∀ p : Int, 0 ≤ p → p ≤ 99 → 0 ≤ cn p) (hp0 : 1 ≤ p) (hp1 : p ≤ 99) (h0 : rgS cn (p + 1) ≤ j) (h1 : j < rgS cn p) : PaQ cn (fu f j p) j := by
  unfold PaQ
  rw [fu_same]
  refine ⟨hp0, hp1, fun q q0 q1 => ⟨fun h => ?_, fun h => ?_⟩⟩
  · have := rgS_le hcn (p := q) (q := p) (by omega) h (by omega)
    omega
  · by_cases e : q ≤ p
    · exact e
    · have := rgS_le hcn (p := p + 1) (q := q) (by omega) (by omega) (by omega)
      omega
theorem PaQ.oth {cn f : Int → Int} {i j v : Int} (h : PaQ cn f j) (hn : j ≠ i) : PaQ cn (fu f i v) j := by
  unfold PaQ at h ⊢
  rw [fu_ne hn]
  exact h
theorem PaQ.same {cn f g : Int → Int} {j : Int} (h : PaQ cn f j) (h' : PaQ cn g j) : f j = g j := by
  have a1 := (h.2.2 (f j) h.1 h.2.1).mp (Int.le_refl _)
  have a2 := (h'.2.2 (f j) h.1 h.2.1).mpr a1
  have b1 := (h'.2.2 (g j) h'.1 h'.2.1).mp (Int.le_refl _)
  have b2 := (h.2.2 (g j) h'.1 h'.2.1).mpr b1
  omega
abbrev FzS : Type := (Int → Int) × (Int → Int) × (Int → Int) × (Int → Int)
/-- seasons without a harvest get one of 0 sacks with weight 1: harvests, sacks, weights, weight sums -/
def fzN (X : DrS) : Nat → FzS
  | 0 => (xHv X, xSk X, xWt X, xWs X)
  | m + 1 => if (fzN X m).1 m = 0 then (fu (fzN X m).1 m 1, fu (fzN X m).2.1 (m * 4) 0, fu (fzN X m).2.2.1 (m * 4) 1, fu (fzN X m).2.2.2 m 1) else fzN X m
def dOf (X : DrS) (f : Int → Int) : LaS := (xSe X, xCo X, xMi X, xRo X, (xEa X).toNat, f, (fzN X (xSe X).toNat).1, (fzN X (xSe X).toNat).2.1, (fzN X (xSe X).toNat).2.2.1, (fzN X (xSe X).toNat).2.2.2)
theorem fzN_at {X : DrS} : ∀ (m : Nat) (s : Int), 0 ≤ s → (m ≤ s → (fzN X m).1 s = xHv X s ∧ (fzN X m).2.2.2 s = xWs X s ∧ ∀ i : Int, 0 ≤ i → i < 4 → (fzN X m).2.1 (4 * s + i) = xSk X (4 * s + i) ∧ (fzN X m).2.2.1 (4 * s + i) = xWt X (4 * s + i)) ∧
    (s < m → (xHv X s = 0 → (fzN X m).1 s = 1 ∧ (fzN X m).2.2.2 s = 1 ∧ (fzN X m).2.1 (4 * s) = 0 ∧ (fzN X m).2.2.1 (4 * s) = 1) ∧ (xHv X s ≠ 0 → (fzN X m).1 s = xHv X s ∧ (fzN X m).2.2.2 s = xWs X s ∧ ∀ i : Int, 0 ≤ i → i < 4 → (fzN X m).2.1 (4 * s + i) = xSk X (4 * s + i) ∧ (fzN X m).2.2.1 (4 * s + i) = xWt X (4 * s + i)))
  | 0, s, h0 => ⟨fun _ => ⟨rfl, rfl, fun i _ _ => ⟨rfl, rfl⟩⟩, fun h => by omega⟩
  | m + 1, s, h0 => by
    obtain ⟨g1, g2⟩ := fzN_at (X := X) m s h0
    obtain ⟨k1, -⟩ := fzN_at (X := X) m m (by omega)
    obtain ⟨k1, -, -⟩ := k1 (Int.le_refl _)
    simp only [fzN]
    by_cases q : (fzN X m).1 m = 0
    · rw [if_pos q]
      refine ⟨fun h => ?_, fun h => ⟨fun hz => ?_, fun hz => ?_⟩⟩
      · obtain ⟨a1, a2, a3⟩ := g1 (by omega)
        refine ⟨by show fu _ _ _ s = _; rw [fu_ne (by omega)]; exact a1, by show fu _ _ _ s = _; rw [fu_ne (by omega)]; exact a2, fun i i0 i1 => ?_⟩
        show fu _ _ _ (4 * s + i) = _ ∧ fu _ _ _ (4 * s + i) = _
        rw [fu_ne (by omega), fu_ne (by omega)]
        exact a3 i i0 i1
      · by_cases e : s = m
        · subst e
          show fu _ _ _ _ = _ ∧ fu _ _ _ _ = _ ∧ fu _ _ _ _ = _ ∧ fu _ _ _ _ = _
          rw [fu_same, fu_same, show 4 * (m : Int) = m * 4 by omega, fu_same, fu_same]
          exact ⟨rfl, rfl, rfl, rfl⟩
        · obtain ⟨a1, a2, a3, a4⟩ := (g2 (by omega)).1 hz
          show fu _ _ _ _ = _ ∧ fu _ _ _ _ = _ ∧ fu _ _ _ _ = _ ∧ fu _ _ _ _ = _
          rw [fu_ne e, fu_ne e, fu_ne (by omega), fu_ne (by omega)]
          exact ⟨a1, a2, a3, a4⟩
      · by_cases e : s = m
        · subst e; rw [k1] at q; exact absurd q hz
        · obtain ⟨a1, a2, a3⟩ := (g2 (by omega)).2 hz
          refine ⟨by show fu _ _ _ s = _; rw [fu_ne e]; exact a1, by show fu _ _ _ s = _; rw [fu_ne e]; exact a2, fun i i0 i1 => ?_⟩
          show fu _ _ _ (4 * s + i) = _ ∧ fu _ _ _ (4 * s + i) = _
          rw [fu_ne (by omega), fu_ne (by omega)]
          exact a3 i i0 i1
    · rw [if_neg q]
      refine ⟨fun h => g1 (by omega), fun h => ?_⟩
      by_cases e : s = m
      · subst e
        exact ⟨fun hz => absurd (k1.trans hz) q, fun _ => g1 (Int.le_refl _)⟩
      · exact g2 (by omega)
theorem suN_congr {f g : Int → Int} {b : Int} : ∀ n : Nat, (∀ i : Int, 0 ≤ i → i < n → f (b + i) = g (b + i)) → suN f b n = suN g b n
  | 0, _ => rfl
  | n + 1, h => by
    simp only [suN]
    rw [suN_congr n (fun i a c => h i a (by omega)), h n (by omega) (by omega)]
theorem dOf_ok {X : DrS} {f : Int → Int} (hX : XOK X) (hf : ∀ j : Int, 0 ≤ j → j < xEa X → PaQ (xCn X) f j) : LOK (dOf X f) := by
  obtain ⟨x1, x2, x3, x4, x5, x6, x7, x8, x9, x10, x11, x12, x13, x14, x15, x16⟩ := id hX
  refine ⟨x1, x2, x3, x4, x5, x6, x7, x8, x9, ?_, fun i i0 i1 => ?_, fun i i0 i1 => ?_, fun s z0 z1 => ?_⟩
  · show (xEa X).toNat ≤ 180; omega
  · have i1 : i < ((xEa X).toNat : Int) := i1
    have := hf i i0 (by omega)
    exact ⟨this.1, this.2.1⟩
  · have i1 : i + 1 < ((xEa X).toNat : Int) := i1
    have a1 := hf i i0 (by omega)
    have a2 := hf (i + 1) (by omega) (by omega)
    have a3 := (a2.2.2 (f (i + 1)) a2.1 a2.2.1).mp (Int.le_refl _)
    exact (a1.2.2 (f (i + 1)) a2.1 a2.2.1).mpr (by omega)
  · have z1 : s < xSe X := z1
    obtain ⟨y1, y2, y3, y4, y5, y6⟩ := x16 s z0 (by omega)
    obtain ⟨-, g⟩ := fzN_at (X := X) (xSe X).toNat s z0
    obtain ⟨g1, g2⟩ := g (by omega)
    show 1 ≤ (fzN X (xSe X).toNat).1 s ∧ (fzN X (xSe X).toNat).1 s ≤ 4 ∧ 1 ≤ (fzN X (xSe X).toNat).2.2.2 s ∧ (fzN X (xSe X).toNat).2.2.2 s ≤ 12 ∧ (fzN X (xSe X).toNat).2.2.2 s = suN (fzN X (xSe X).toNat).2.2.1 (4 * s) ((fzN X (xSe X).toNat).1 s).toNat ∧ ∀ i : Int, 0 ≤ i → i < (fzN X (xSe X).toNat).1 s → 0 ≤ (fzN X (xSe X).toNat).2.1 (4 * s + i) ∧ (fzN X (xSe X).toNat).2.1 (4 * s + i) ≤ 20 ∧ 1 ≤ (fzN X (xSe X).toNat).2.2.1 (4 * s + i) ∧ (fzN X (xSe X).toNat).2.2.1 (4 * s + i) ≤ 9
    by_cases e : xHv X s = 0
    · obtain ⟨a1, a2, a3, a4⟩ := g1 e
      rw [a1, a2]
      refine ⟨by omega, by omega, by omega, by omega, ?_, fun i i0 i1 => ?_⟩
      · show (1 : Int) = suN _ _ 1
        simp only [suN]
        rw [show 4 * s + ((0 : Nat) : Int) = 4 * s by omega, a4]
        rfl
      · rw [show 4 * s + i = 4 * s by omega, a3, a4]
        omega
    · obtain ⟨a1, a2, a3⟩ := g2 e
      rw [a1, a2]
      refine ⟨by omega, y2, ?_, y4, ?_, fun i i0 i1 => ?_⟩
      · have h1 : 1 ≤ suN (xWt X) (4 * s) (xHv X s).toNat := by
          rw [show (xHv X s).toNat = ((xHv X s).toNat - 1) + 1 by omega]
          simp only [suN]
          have h2 := y6 (((xHv X s).toNat - 1 : Nat) : Int) (by omega) (by omega)
          have h3 : ∀ m : Nat, m < (xHv X s).toNat → 0 ≤ suN (xWt X) (4 * s) m := fun m => by
            induction m with
            | zero => intro _; exact Int.le_refl 0
            | succ m ih =>
              intro hm
              have := ih (by omega)
              have := y6 m (by omega) (by omega)
              simp only [suN]
              omega
          have := h3 ((xHv X s).toNat - 1) (by omega)
          omega
        rw [y5]; exact h1
      · rw [y5]
        exact suN_congr _ (fun i i0 i1 => ((a3 i i0 (by omega)).2).symm)
      · obtain ⟨b1, b2⟩ := a3 i i0 (by omega)
        rw [b1, b2]
        exact y6 i i0 i1
set_option maxRecDepth 100000 in
set_option maxHeartbeats 4000000 in
theorem lp_X0_paysOf2 {k : WC} {d : Nat} {w : MC} {h : AH} {l i ff nu : Int} {X : DrS} {p : Int} (hd : 2 ≤ d) (hX : XOK X) (hp0 : 1 ≤ p) (hp1 : p ≤ 99) (hc : Cx w k d 1 180 mdX0_paysOf) (kont : ∀ (h' : AH) (f : Int → Int) (z4 : Option AV), LrO h' i ff nu X → h' (4, 0) = some (oI 100 (xCn X)) → h' (31, l) = some (oI (xEa X).toNat f) → Fr (fun z => z = (31, l)) h h' → (∀ j : Int, 0 ≤ j → j < rgS (xCn X) p → PaQ (xCn X) f j) → J w (0 + 1) (0 + (max 0 (xEa X)).toNat) 53 [some (vR (3, 0)), some (vR (31, l)), some (vI (rgS (xCn X) p)), some (vI p), z4] [] h') : ∀ (zm : Nat) (x : Int) (h' : AH) (f : Int → Int), (xCn X p - x).toNat = zm → 0 ≤ x → x ≤ xCn X p → LrO h' i ff nu X → h' (4, 0) = some (oI 100 (xCn X)) → h' (31, l) = some (oI (xEa X).toNat f) → Fr (fun z => z = (31, l)) h h' → (∀ j : Int, 0 ≤ j → j < rgS (xCn X) (p + 1) + x → PaQ (xCn X) f j) → J w (0 + 1) (0 + (max 0 (xEa X)).toNat) 23 [some (vR (3, 0)), some (vR (31, l)), some (vI (rgS (xCn X) (p + 1) + x)), some (vI p), some (vI x)] [] h' := by
  intro zm
  induction zm using Nat.strongRecOn with
  | _ zm ih =>
    intro x h' f hm hx0 hx1 zQ zA zL hfr hq
    obtain ⟨x1, x2, x3, x4, x5, x6, x7, x8, x9, x10, x11, x12, x13, x14, x15, x16⟩ := id hX
    have zcp := x15 p (by omega) hp1
    have zst := rgS_step (cn := xCn X) (p := p) (by omega) hp1
    have zle := rgS_le (fun q a c => (x15 q a c).1) (p := 1) (q := p) (by omega) hp0 (by omega)
    have zge := rgS_le (fun q a c => (x15 q a c).1) (p := p + 1) (q := 100) (by omega) (by omega) (by omega)
    rw [rgS_top] at zge
    refine j_iload hc dX0_paysOf_23 rfl ?_
    refine j_aload_n hc dX0_paysOf_25 rfl ?_
    refine j_get hc dX0_paysOf_26 fX0_96 zQ rfl ?_
    refine j_iload_n hc dX0_paysOf_29 rfl ?_
    refine j_iald hc dX0_paysOf_30 zA (by omega) (by omega) ?_
    refine j_icmp_ge (tgt := 53) hc dX0_paysOf_31 (by decide) ⟨by omega, by omega⟩ ⟨by omega, by omega⟩ (fun zc1 => ?_) (fun zc1 => ?_)
    · have zx : rgS (xCn X) (p + 1) + x = rgS (xCn X) p := by omega
      rw [zx] at hq ⊢
      exact kont _ _ _ zQ zA zL hfr hq
    · refine j_iload_n hc dX0_paysOf_34 rfl ?_
      refine j_aload_n hc dX0_paysOf_35 rfl ?_
      refine j_alenP hc dX0_paysOf_36 zL (by decide) ?_
      refine j_icmp_ge (tgt := 53) hc dX0_paysOf_37 (by decide) ⟨by omega, by omega⟩ ⟨by omega, by omega⟩ (fun zc2 => ?_) (fun zc2 => ?_)
      · have zx : rgS (xCn X) (p + 1) + x = rgS (xCn X) p := by omega
        rw [zx] at hq ⊢
        exact kont _ _ _ zQ zA zL hfr hq
      · refine j_aload_n hc dX0_paysOf_40 rfl ?_
        refine j_iload_n hc dX0_paysOf_41 rfl ?_
        refine j_iload_n hc dX0_paysOf_42 rfl ?_
        refine j_iast hc dX0_paysOf_43 zL (by omega) (by omega) ?_
        generalize ezh1 : up _ _ _ = zh1
        have zQ_zh1 := (congrFun ezh1 _).symm.trans ((up_ne (by simp)).trans zQ)
        have zQ4_zh1 := (congrFun ezh1 _).symm.trans ((up_ne (by simp)).trans zA)
        have zL31_zh1 := (congrFun ezh1 _).symm.trans (up_same _ _ _)
        refine j_iinc (L' := [_, _, _, _, _]) hc dX0_paysOf_44 rfl (Nat.le_of_ble_eq_true rfl) rfl ?_
        refine j_iinc (L' := [_, _, _, _, _]) hc dX0_paysOf_47 rfl (Nat.le_of_ble_eq_true rfl) rfl ?_
        refine j_goto (tgt := 23) hc dX0_paysOf_50 (by decide) ?_
        rw [show rgS (xCn X) (p + 1) + x + 1 = rgS (xCn X) (p + 1) + (x + 1) by omega]
        exact ih _ (by omega) (x + 1) _ _ rfl (by omega) (by omega) zQ_zh1 zQ4_zh1 zL31_zh1 (by rw [← ezh1]; exact hfr.push rfl) (fun j z0 z1 => by
          by_cases e : j = rgS (xCn X) (p + 1) + x
          · rw [e]; exact PaQ.set (fun q a c => (x15 q a c).1) hp0 hp1 (by omega) (by omega)
          · exact (hq j z0 (by omega)).oth e)
set_option maxRecDepth 100000 in
set_option maxHeartbeats 4000000 in
theorem lp_X0_paysOf1 {k : WC} {d : Nat} {w : MC} {h : AH} {l i ff nu : Int} {X : DrS} (hd : 2 ≤ d) (hX : XOK X) (hc : Cx w k d 1 180 mdX0_paysOf) (he : Ends w 1 180 (pe fun v h' => v = vR (31, l) ∧ (∃ f, h' (31, l) = some (oI (xEa X).toNat f) ∧ ∀ j : Int, 0 ≤ j → j < xEa X → PaQ (xCn X) f j) ∧ Fr (fun z => z = (31, l)) h h')) : ∀ (zm : Nat) (p : Int) (h' : AH) (f : Int → Int) (z4 : Option AV), p.toNat = zm → 0 ≤ p → p ≤ 99 → LrO h' i ff nu X → h' (4, 0) = some (oI 100 (xCn X)) → h' (31, l) = some (oI (xEa X).toNat f) → Fr (fun z => z = (31, l)) h h' → (∀ j : Int, 0 ≤ j → j < rgS (xCn X) (p + 1) → PaQ (xCn X) f j) → J w (0 + 1) (0 + (max 0 (xEa X)).toNat) 16 [some (vR (3, 0)), some (vR (31, l)), some (vI (rgS (xCn X) (p + 1))), some (vI p), z4] [] h' := by
  intro zm
  induction zm using Nat.strongRecOn with
  | _ zm ih =>
    intro p h' f z4 hm hp0 hp1 zQ zA zL hfr hq
    obtain ⟨x1, x2, x3, x4, x5, x6, x7, x8, x9, x10, x11, x12, x13, x14, x15, x16⟩ := id hX
    have zcp := x15 p (by omega) hp1
    refine j_iload_n hc dX0_paysOf_16 rfl ?_
    refine j_if_le (b := 0) (tgt := 59) hc dX0_paysOf_17 (by decide) ⟨by omega, by omega⟩ (fun zc1 => ?_) (fun zc1 => ?_)
    · refine j_aload_n hc dX0_paysOf_59 rfl ?_
      exact j_aret hc he dX0_paysOf_60 rfl (by first | exact Or.inl ⟨_, rfl⟩ | exact Or.inr ⟨_, rfl⟩) (by omega) (by omega) ⟨_, rfl, rfl, ⟨f, zL, fun j z0 z1 => hq j z0 (by rw [show p + 1 = 1 by omega, ← x14]; exact z1)⟩, hfr⟩
    · refine j_iconst hc dX0_paysOf_20 ?_
      refine j_istore (L' := [_, _, _, _, _]) hc dX0_paysOf_21 (Nat.le_of_ble_eq_true rfl) rfl ?_
      rw [show rgS (xCn X) (p + 1) = rgS (xCn X) (p + 1) + 0 by omega]
      refine lp_X0_paysOf2 hd hX (by omega) hp1 hc (fun h2 f2 z4 zQ zA zL hfr hq => ?_) _ 0 _ f rfl (by omega) (by omega) zQ zA zL hfr (fun j z0 z1 => hq j z0 (by omega))
      refine j_iinc (L' := [_, _, _, _, _]) hc dX0_paysOf_53 rfl (Nat.le_of_ble_eq_true rfl) rfl ?_
      refine j_goto (tgt := 16) hc dX0_paysOf_56 (by decide) ?_
      have zpp : rgS (xCn X) p = rgS (xCn X) (p - 1 + 1) := by rw [show p - 1 + 1 = p by omega]
      rw [zpp]
      exact ih _ (by omega) (p - 1) _ _ _ rfl (by omega) (by omega) zQ zA zL hfr (by rw [← zpp]; exact hq)
set_option maxRecDepth 100000 in
set_option maxHeartbeats 4000000 in
theorem ev_X0_paysOf {k : WC} {d : Nat} {h : AH} {l i ff nu : Int} {X : DrS} (hd : 2 ≤ d) (hX : XOK X) (zQ : LrO h i ff nu X) (zA : h (4, 0) = some (oI 100 (xCn X))) (q31 : h (31, l) = none) : Ev k d mdX0_paysOf h [vR (3, 0)] 1 180 (pe fun v h' => v = vR (31, l) ∧ (∃ f, h' (31, l) = some (oI (xEa X).toNat f) ∧ ∀ j : Int, 0 ≤ j → j < xEa X → PaQ (xCn X) f j) ∧ Fr (fun z => z = (31, l)) h h') := by
  obtain ⟨x1, x2, x3, x4, x5, x6, x7, x8, x9, x10, x11, x12, x13, x14, x15, x16⟩ := id hX
  refine Ev.mk (by decide +kernel) [_, _, _, _, _] rfl (Nat.le_of_ble_eq_true rfl) (fun w hc he => ?_)
  refine j_iconst hc dX0_paysOf_0 ?_
  refine j_aload_n hc dX0_paysOf_1 rfl ?_
  refine j_get hc dX0_paysOf_2 fX0_87 zQ rfl ?_
  refine j_mmax hc dX0_paysOf_5 mX0_90 mo_max ⟨by omega, by omega⟩ ⟨by omega, by omega⟩ (by omega) (by omega) rfl (by omega) (Nat.le_of_ble_eq_true rfl) ?_
  refine j_newI (nm := (31, l)) hc dX0_paysOf_8 ka_int q31 (by omega) (by omega) (by omega) (by omega) ?_
  generalize ezh1 : up _ _ _ = zh1
  have zQ_zh1 := (congrFun ezh1 _).symm.trans ((up_ne (by simp)).trans zQ)
  have zQ4_zh1 := (congrFun ezh1 _).symm.trans ((up_ne (by simp)).trans zA)
  have zL31_zh1 := (congrFun ezh1 _).symm.trans (up_same _ _ _)
  refine j_astore_n (L' := [_, _, _, _, _]) hc dX0_paysOf_10 (Nat.le_of_ble_eq_true rfl) rfl ?_
  refine j_iconst hc dX0_paysOf_11 ?_
  refine j_istore_n (L' := [_, _, _, _, _]) hc dX0_paysOf_12 (Nat.le_of_ble_eq_true rfl) rfl ?_
  refine j_bipush hc dX0_paysOf_13 (by decide) ?_
  refine j_istore_n (L' := [_, _, _, _, _]) hc dX0_paysOf_15 (Nat.le_of_ble_eq_true rfl) rfl ?_
  refine lp_X0_paysOf1 hd hX hc he _ 99 _ (fun _ => 0) _ rfl (by omega) (by omega) zQ_zh1 zQ4_zh1 (Eq.trans zL31_zh1 (by rw [show max 0 (xEa X) = xEa X by omega])) (by rw [← ezh1]; exact (Fr.rf (fun z => z = (31, l)) _).push rfl) (fun j z0 z1 => by rw [show (99 : Int) + 1 = 100 by omega, rgS_top] at z1; omega)
set_option maxRecDepth 100000 in
set_option maxHeartbeats 4000000 in
theorem lp_X0_goodsOfFirst {k : WC} {d : Nat} {w : MC} {h : AH} {l : Int} {D : LaS} (hd : 1 ≤ d) (hne : lNe D ≤ 180) (hc : Cx w k d 1 201 mdX0_goodsOfFirst) (he : Ends w 1 201 (pe fun v h' => v = vR (37, l) ∧ (∃ f, h' (37, l) = some (oI 201 f) ∧ ∀ e : Int, 0 ≤ e → e ≤ 200 → f e = goS D e) ∧ Fr (fun z => z = (37, l)) h h')) : ∀ (zm : Nat) (e : Nat) (h' : AH) (f : Int → Int), 200 - e = zm → e ≤ 200 → h' (31, l) = some (oI (lNe D) (lPa D)) → h' (37, l) = some (oI 201 f) → Fr (fun z => z = (37, l)) h h' → (∀ j : Int, 0 ≤ j → j ≤ e → f j = goS D j) → J w (0 + 1) (0 + (201 : Int).toNat) 8 [some (vR (31, l)), some (vR (37, l)), some (vI ((e : Int) + 1))] [] h' := by
  intro zm
  induction zm using Nat.strongRecOn with
  | _ zm ih =>
    intro e h' f hm he1 zL zG hfr hq
    refine j_iload_n hc dX0_goodsOfFirst_8 rfl ?_
    refine j_sipush hc dX0_goodsOfFirst_9 (by decide) ?_
    refine j_icmp_gt (tgt := 45) hc dX0_goodsOfFirst_12 (by decide) ⟨by omega, by omega⟩ ⟨by omega, by omega⟩ (fun zc1 => ?_) (fun zc1 => ?_)
    · refine j_aload_n hc dX0_goodsOfFirst_45 rfl ?_
      exact j_aret hc he dX0_goodsOfFirst_46 rfl (by first | exact Or.inl ⟨_, rfl⟩ | exact Or.inr ⟨_, rfl⟩) (by omega) (by omega) ⟨_, rfl, rfl, ⟨f, zG, fun j z0 z1 => hq j z0 (by omega)⟩, hfr⟩
    · refine j_aload_n hc dX0_goodsOfFirst_15 rfl ?_
      refine j_iload_n hc dX0_goodsOfFirst_16 rfl ?_
      refine j_aload_n hc dX0_goodsOfFirst_17 rfl ?_
      refine j_iload_n hc dX0_goodsOfFirst_18 rfl ?_
      refine j_iconst hc dX0_goodsOfFirst_19 ?_
      refine j_isub hc dX0_goodsOfFirst_20 ?_
      refine j_iald hc dX0_goodsOfFirst_21 zG (by omega) (by omega) ?_
      refine j_iload_n hc dX0_goodsOfFirst_22 rfl ?_
      refine j_aload_n hc dX0_goodsOfFirst_23 rfl ?_
      refine j_alenP hc dX0_goodsOfFirst_24 zL (by decide) ?_
      refine j_icmp_gt (tgt := 36) hc dX0_goodsOfFirst_25 (by decide) ⟨by omega, by omega⟩ ⟨by omega, by omega⟩ (fun zc2 => ?_) (fun zc2 => ?_)
      · refine j_iconst hc dX0_goodsOfFirst_36 ?_
        refine j_iadd hc dX0_goodsOfFirst_37 ?_
        refine j_iast hc dX0_goodsOfFirst_38 zG (by omega) (by omega) ?_
        generalize ezh1 : up _ _ _ = zh1
        have zL31_zh1 := (congrFun ezh1 _).symm.trans ((up_ne (by simp)).trans zL)
        have zL37_zh1 := (congrFun ezh1 _).symm.trans (up_same _ _ _)
        refine j_iinc (L' := [_, _, _]) hc dX0_goodsOfFirst_39 rfl (Nat.le_of_ble_eq_true rfl) rfl ?_
        refine j_goto (tgt := 8) hc dX0_goodsOfFirst_42 (by decide) ?_
        exact ih _ (by omega) (e + 1) _ _ rfl (by omega) zL31_zh1 zL37_zh1 (by rw [← ezh1]; exact hfr.push rfl) (fun j z0 z1 => by
          by_cases zj : j = (e : Int) + 1
          · rw [zj, fu_same, show (e : Int) + 1 - 1 = e by omega, hq e (by omega) (by omega)]
            unfold goS
            rw [show ((e : Int) + 1).toNat = e + 1 by omega, show ((e : Int)).toNat = e by omega]
            simp only [goN]
            unfold prS
            first
              | rw [if_pos ⟨by omega, by omega⟩]
              | rw [if_neg (by omega)]
          · rw [fu_ne zj]; exact hq j z0 (by omega))
      · refine j_aload_n hc dX0_goodsOfFirst_28 rfl ?_
        refine j_iload_n hc dX0_goodsOfFirst_29 rfl ?_
        refine j_iconst hc dX0_goodsOfFirst_30 ?_
        refine j_isub hc dX0_goodsOfFirst_31 ?_
        refine j_iald hc dX0_goodsOfFirst_32 zL (by omega) (by omega) ?_
        refine j_goto (tgt := 37) hc dX0_goodsOfFirst_33 (by decide) ?_
        refine j_iadd hc dX0_goodsOfFirst_37 ?_
        refine j_iast hc dX0_goodsOfFirst_38 zG (by omega) (by omega) ?_
        generalize ezh2 : up _ _ _ = zh2
        have zL31_zh2 := (congrFun ezh2 _).symm.trans ((up_ne (by simp)).trans zL)
        have zL37_zh2 := (congrFun ezh2 _).symm.trans (up_same _ _ _)
        refine j_iinc (L' := [_, _, _]) hc dX0_goodsOfFirst_39 rfl (Nat.le_of_ble_eq_true rfl) rfl ?_
        refine j_goto (tgt := 8) hc dX0_goodsOfFirst_42 (by decide) ?_
        exact ih _ (by omega) (e + 1) _ _ rfl (by omega) zL31_zh2 zL37_zh2 (by rw [← ezh2]; exact hfr.push rfl) (fun j z0 z1 => by
          by_cases zj : j = (e : Int) + 1
          · rw [zj, fu_same, show (e : Int) + 1 - 1 = e by omega, hq e (by omega) (by omega)]
            unfold goS
            rw [show ((e : Int) + 1).toNat = e + 1 by omega, show ((e : Int)).toNat = e by omega]
            simp only [goN]
            unfold prS
            first
              | rw [if_pos ⟨by omega, by omega⟩]
              | rw [if_neg (by omega)]
          · rw [fu_ne zj]; exact hq j z0 (by omega))
set_option maxRecDepth 100000 in
set_option maxHeartbeats 4000000 in
theorem ev_X0_goodsOfFirst {k : WC} {d : Nat} {h : AH} {l : Int} {D : LaS} (hd : 1 ≤ d) (hne : lNe D ≤ 180) (zL : h (31, l) = some (oI (lNe D) (lPa D))) (q37 : h (37, l) = none) : Ev k d mdX0_goodsOfFirst h [vR (31, l)] 1 201 (pe fun v h' => v = vR (37, l) ∧ (∃ f, h' (37, l) = some (oI 201 f) ∧ ∀ e : Int, 0 ≤ e → e ≤ 200 → f e = goS D e) ∧ Fr (fun z => z = (37, l)) h h') := by
  refine Ev.mk (by decide +kernel) [_, _, _] rfl (Nat.le_of_ble_eq_true rfl) (fun w hc he => ?_)
  refine j_sipush hc dX0_goodsOfFirst_0 (by decide) ?_
  refine j_newI (nm := (37, l)) hc dX0_goodsOfFirst_3 ka_int q37 (by omega) (by omega) (by omega) (by omega) ?_
  generalize ezh1 : up _ _ _ = zh1
  have zL31_zh1 := (congrFun ezh1 _).symm.trans ((up_ne (by simp)).trans zL)
  have zL37_zh1 := (congrFun ezh1 _).symm.trans (up_same _ _ _)
  refine j_astore_n (L' := [_, _, _]) hc dX0_goodsOfFirst_5 (Nat.le_of_ble_eq_true rfl) rfl ?_
  refine j_iconst hc dX0_goodsOfFirst_6 ?_
  refine j_istore_n (L' := [_, _, _]) hc dX0_goodsOfFirst_7 (Nat.le_of_ble_eq_true rfl) rfl ?_
  exact lp_X0_goodsOfFirst hd hne hc he _ 0 _ (fun _ => 0) rfl (by omega) zL31_zh1 zL37_zh1 (by rw [← ezh1]; exact (Fr.rf (fun z => z = (37, l)) _).push rfl) (fun j z0 z1 => by rw [show j = 0 by omega]; rfl)
