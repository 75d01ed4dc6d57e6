/-! ===== faults, new lands, new rules ===== -/
def zrC (cn hv ws : Int → Int) : Prop := (∀ p : Int, 0 ≤ p → p < 100 → cn p = 0) ∧ (∀ p : Int, 0 ≤ p → p < 4 → hv p = 0) ∧ ∀ p : Int, 0 ≤ p → p < 4 → ws p = 0
def LaF (S : BaS) (r : Int × DrS) : Prop := ∃ cn hv ws sk wt : Int → Int, zrC cn hv ws ∧ r = laR (bB S) (bN S) (x0S cn hv ws sk wt)
def FaA (S : BaS) (so x : Int) : Prop := (so = 0 ∧ ∃ r, LaF S r ∧ x = r.1) ∨ (so = 1 ∧ x = (ruR (bB S) (bN S)).1) ∨ (so ≠ 0 ∧ so ≠ 1 ∧ x = -2)
theorem RdA.l {h h' : AH} (a : RdA h) {i ff nu : Int} {X : DrS} (h1 : LrO h' i ff nu X) (h2 : LrA h' X) (F : Fr isLr h h') : RdA h' := by
  obtain ⟨-, i2, f2, c2, g2, a3⟩ := a
  exact ⟨⟨i, ff, nu, X, h1, h2⟩, i2, f2, c2, g2, a3.fr (F _ (by show ¬ (_ ∧ _); decide)) (F _ (by show ¬ (_ ∧ _); decide))⟩
theorem RdA.r {h h' : AH} (a : RdA h) {i ff cl : Int} {cf : Int → Int} (h1 : RrO h' i ff cl cf) (F : Fr isRr h h') : RdA h' := by
  obtain ⟨⟨i2, f2, n2, X, a1, a2⟩, -⟩ := a
  exact ⟨⟨i2, f2, n2, X, a1.fr (F _ (by show ¬ (_ ∨ _); decide)), a2.fr fun j j0 j1 => F _ (by show ¬ (j = 9 ∨ j = 10); omega)⟩, i, ff, cl, cf, h1⟩
set_option maxRecDepth 100000 in
set_option maxHeartbeats 4000000 in
theorem ev_X10_fault_a {k : WC} {d : Nat} {h : AH} {S : BaS} {so : Int} (hd : 202 ≤ d) (hB : BarnAt h S) (his : inI so) : Ev k d mdX10_fault h [vR (0, 0), vI so] 0 0 (pe fun v h' => (∃ x, v = vI x ∧ FaA S so x) ∧ BarnAt h' S ∧ Fr isBa h h') := by
  obtain ⟨⟨⟨zb0, zb11, zb12, zb13, zb14, zb141, zb15, zb18⟩, zTp, zRd⟩, zSp, zTw, zSt, zL, zK⟩ := id hB
  obtain ⟨zT1, ⟨zlc0, zlc1⟩, ⟨zrc0, zrc1⟩, zKl, zKr, zKw, ⟨zto0, zto1⟩, zse0, zse1⟩ := id zK
  by_cases h0 : so = 0
  · skip
    obtain ⟨⟨i1, ff1, nu1, X1, zLo, zLa⟩, i2, ff2, cl2_, cf2, zRo⟩ := id zRd
    refine Ev.mk (by decide +kernel) [_, _] rfl (Nat.le_of_ble_eq_true rfl) (fun w hc he => ?_)
    refine j_iload_n hc dX10_fault_0 rfl ?_
    refine j_if_ne (b := 0) (tgt := 12) hc dX10_fault_1 (by decide) his (fun zc1 => ?_) (fun zc1 => ?_)
    · exact absurd h0 zc1
    · refine j_aload_n hc dX10_fault_4 rfl ?_
      refine j_get hc dX10_fault_5 fX10_21 zb0 rfl ?_
      refine j_callV (d' := d - 1) hc dX10_fault_8 vX10_94 zLo (ev_X1_findFault (b := bB S) (n := bN S) (by omega) zLo zLa zTp zT1) rfl (by omega) (by omega) (by omega) rfl rfl (Nat.le_of_ble_eq_true rfl) (retE fun zv8 zq8 zp8 => ?_)
      obtain ⟨cn, hv, ws, i9, ff9, nu9, X9, zz1, zz2, zz3, zv, zLo9, zLa9, zX9, zF9⟩ := zp8
      subst zv
      have zB9 := hB.readers (zF9.mono fun z zz => ⟨zz.1, by omega⟩) (zRd.l zLo9 zLa9 zF9)
      have zlaF : LaF S (laR (bB S) (bN S) (x0S cn hv ws (xSk X1) (xWt X1))) := ⟨cn, hv, ws, _, _, ⟨zz1, zz2, zz3⟩, rfl⟩
      exact j_iret hc he dX10_fault_11 rfl (by omega) (by omega) ⟨_, rfl, ⟨_, rfl, Or.inl ⟨h0, _, zlaF, rfl⟩⟩, zB9⟩
  by_cases h1 : so = 1
  · skip
    obtain ⟨⟨i1, ff1, nu1, X1, zLo, zLa⟩, i2, ff2, cl2_, cf2, zRo⟩ := id zRd
    refine Ev.mk (by decide +kernel) [_, _] rfl (Nat.le_of_ble_eq_true rfl) (fun w hc he => ?_)
    refine j_iload_n hc dX10_fault_0 rfl ?_
    refine j_if_ne (b := 0) (tgt := 12) hc dX10_fault_1 (by decide) his (fun zc1 => ?_) (fun zc1 => ?_)
    · refine j_iload_n hc dX10_fault_12 rfl ?_
      refine j_iconst hc dX10_fault_13 ?_
      refine j_icmp_ne (tgt := 27) hc dX10_fault_14 (by decide) his ⟨by omega, by omega⟩ (fun zc2 => ?_) (fun zc2 => ?_)
      · exact absurd h1 zc2
      · refine j_aload_n hc dX10_fault_17 rfl ?_
        refine j_get hc dX10_fault_18 fX10_28 zb0 rfl ?_
        refine j_callV (d' := d - 1) hc dX10_fault_21 vX10_98 zRo.1 (ev_X5_findFault (b := bB S) (n := bN S) (by omega) zRo zTp zT1) rfl (by omega) (by omega) (by omega) rfl rfl (Nat.le_of_ble_eq_true rfl) (retE fun zv21 zq21 zp21 => ?_)
        obtain ⟨zv, ⟨i9, ff9, cl9, cf9, zRo9, zc0, zc1, zce⟩, zF9⟩ := zp21
        subst zv
        have zB9 := hB.readers (zF9.mono fun z zz => ⟨by rcases zz with zz | zz <;> omega, by rcases zz with zz | zz <;> omega⟩) (zRd.r zRo9 zF9)
        refine j_goto (tgt := 29) hc dX10_fault_24 (by decide) ?_
        exact j_iret hc he dX10_fault_29 rfl (by omega) (by omega) ⟨_, rfl, ⟨_, rfl, Or.inr (Or.inl ⟨h1, rfl⟩)⟩, zB9⟩
    · exact absurd zc1 h0
  refine Ev.mk (by decide +kernel) [_, _] rfl (Nat.le_of_ble_eq_true rfl) (fun w hc he => ?_)
  refine j_iload_n hc dX10_fault_0 rfl ?_
  refine j_if_ne (b := 0) (tgt := 12) hc dX10_fault_1 (by decide) his (fun zc1 => ?_) (fun zc1 => ?_)
  · refine j_iload_n hc dX10_fault_12 rfl ?_
    refine j_iconst hc dX10_fault_13 ?_
    refine j_icmp_ne (tgt := 27) hc dX10_fault_14 (by decide) his ⟨by omega, by omega⟩ (fun zc2 => ?_) (fun zc2 => ?_)
    · refine j_bipush hc dX10_fault_27 (by decide) ?_
      exact j_iret hc he dX10_fault_29 rfl (by omega) (by omega) ⟨_, rfl, ⟨_, rfl, Or.inr (Or.inr ⟨h0, h1, rfl⟩)⟩, hB, Fr.rf _ _⟩
    · exact absurd zc2 h1
  · exact absurd zc1 h0
def e0Y : LaY := (20, -1, none, 0, 0, 0, fun _ => 0)
def fuD (f : Int → LaS) (i : Int) (v : LaS) : Int → LaS := fun x => if x = i then v else f x
def sLd (S : BaS) (D : LaS) : BaS := ((bB S, 0), (bLc S + 1, fuD (bD S) (bLc S) D, fuL (bE S) (bLc S) e0Y), S.2.2)
theorem lnF_ru {n : Int} (h : 0 ≤ n) : ru (lnF n) n (some (30, n)) = lnF (n + 1) := by
  funext x
  unfold ru lnF
  by_cases e : x = n
  · rw [if_pos e, if_pos (by omega), e]
  · rw [if_neg e]
    by_cases q : 0 ≤ x ∧ x < n
    · rw [if_pos q, if_pos (by omega)]
    · rw [if_neg q, if_neg (by omega)]
theorem rnF_ru {n : Int} (h : 0 ≤ n) : ru (rnF n) n (some (60, n)) = rnF (n + 1) := by
  funext x
  unfold ru rnF
  by_cases e : x = n
  · rw [if_pos e, if_pos (by omega), e]
  · rw [if_neg e]
    by_cases q : 0 ≤ x ∧ x < n
    · rw [if_pos q, if_pos (by omega)]
    · rw [if_neg q, if_neg (by omega)]
theorem e0Y_ok : YOK e0Y := ⟨by decide, by decide, by decide, by decide, by decide, by decide, by decide, by decide, by decide, fun i _ _ => ⟨by show (0 : Int) ≤ 0; omega, by show (0 : Int) ≤ 20; omega⟩⟩
theorem BarnAt.newland {h h' : AH} {S : BaS} {D : LaS} (a : BarnAt h S) (hl : bLc S < 6) (hD : LOK D) (F : Fr (fun z => z = (0, 0) ∨ z = (11, 0) ∨ z = (1, 0) ∨ (30 ≤ z.1 ∧ z.1 ≤ 40 ∧ z.2 = bLc S)) h h') (h0 : h' (0, 0) = some (oO 9 (CoF (sLd S D)))) (h1 : h' (11, 0) = some (oA 3 6 (lnF (bLc S + 1)))) (h2 : h' (1, 0) = some (oO 7 [vR (2, 0), vI 0])) (hL : LandAt h' (bLc S) D e0Y (fun _ => none)) : BarnAt h' (sLd S D) ∧ Fr isBa h h' := by
  obtain ⟨⟨⟨c0, c11, c12, c13, c14, c141, c15, c18⟩, a1, a1r⟩, a2, a3, a4, ⟨b1, b2, b3, b4⟩, k1, ⟨k20, k21⟩, k3, k4, k5, k6⟩ := a
  have q : ∀ z : Nm, z.1 < 30 → z ≠ (0, 0) → z ≠ (11, 0) → z ≠ (1, 0) → h' z = h z := fun z z0 z1 z2 z3 => F z (by
    rintro (y | y | y | y)
    · exact z1 y
    · exact z2 y
    · exact z3 y
    · omega)
  have qh : ∀ z : Nm, 30 ≤ z.1 → ¬ (z.1 ≤ 40 ∧ z.2 = bLc S) → h' z = h z := fun z z0 z1 => F z (by
    rintro (y | y | y | y)
    · rw [y] at z0; simp at z0
    · rw [y] at z0; simp at z0
    · rw [y] at z0; simp at z0
    · exact z1 y.2)
  refine ⟨⟨⟨⟨h0, h1, (q _ (by decide) (by decide) (by decide) (by decide)).trans c12, (q _ (by decide) (by decide) (by decide) (by decide)).trans c13, (q _ (by decide) (by decide) (by decide) (by decide)).trans c14, (q _ (by decide) (by decide) (by decide) (by decide)).trans c141, (q _ (by decide) (by decide) (by decide) (by decide)).trans c15, (q _ (by decide) (by decide) (by decide) (by decide)).trans c18⟩, ⟨h2, (q _ (by decide) (by decide) (by decide) (by decide)).trans a1.2⟩, ?_⟩, a2.fr fun z hz => q z (by omega) (fun e => by rw [e] at hz; simp at hz) (fun e => by rw [e] at hz; simp at hz) (fun e => by rw [e] at hz; simp at hz), a3.fr fun z hz => q z (by omega) (fun e => by rw [e] at hz; simp at hz) (fun e => by rw [e] at hz; simp at hz) (fun e => by rw [e] at hz; simp at hz), a4.fr fun z hz => q z (by omega) (fun e => by rw [e] at hz; simp at hz) (fun e => by rw [e] at hz; simp at hz) (fun e => by rw [e] at hz; simp at hz), ?_, ?_⟩, F.mono fun z zz => ?_⟩
  · obtain ⟨⟨i, ff, nu, X, r1, r2⟩, i2, f2, c2, g2, r3⟩ := a1r
    exact ⟨⟨i, ff, nu, X, r1.fr (q _ (by decide) (by decide) (by decide) (by decide)), r2.fr fun j j0 j1 => q _ (by show j < 30; omega) (by simp; omega) (by simp; omega) (by simp; omega)⟩, i2, f2, c2, g2, r3.fr (q _ (by decide) (by decide) (by decide) (by decide)) (q _ (by decide) (by decide) (by decide) (by decide))⟩
  · refine ⟨fun l l0 l1 => ?_, fun l l0 l1 z hz => ?_, fun r r0 r1 => ?_, fun r r0 r1 j j0 j1 => ?_⟩
    · have l1 : l < bLc S + 1 := l1
      show LandP h' l (fuD (bD S) (bLc S) D l) (fuL (bE S) (bLc S) e0Y l) (ruQ (bR S) (fuL (bE S) (bLc S) e0Y l))
      by_cases e : l = bLc S
      · rw [e, fuL_same, show fuD (bD S) (bLc S) D (bLc S) = D from if_pos rfl]
        refine ⟨_, hL, fun j j0 j1 => Or.inl ⟨rfl, fun n n0 n1 => ?_⟩⟩
        rw [qh (n, 6 * bLc S + j) (by show 30 ≤ n; omega) (by show ¬ (n ≤ 40 ∧ _); omega)]
        exact b2 (bLc S) (by omega) hl _ (Or.inr ⟨n0, n1, by show 6 * bLc S ≤ 6 * bLc S + j; omega, by show 6 * bLc S + j ≤ 6 * bLc S + 5; omega⟩)
      · rw [fuL_ne e, show fuD (bD S) (bLc S) D l = bD S l from if_neg e]
        refine (b1 l l0 (by omega)).fr fun z hz => qh z (by rcases hz with hz | hz <;> omega) (by rcases hz with hz | hz <;> omega)
    · have l0 : bLc S + 1 ≤ l := l0
      exact (qh z (by rcases hz with hz | hz <;> omega) (by rcases hz with hz | hz <;> omega)).trans (b2 l (by omega) l1 z hz)
    · exact (b3 r r0 r1).fr fun j j0 j1 => qh _ (by show 30 ≤ j; omega) (by show ¬ (j ≤ 40 ∧ _); omega)
    · exact (qh _ (by show 30 ≤ j; omega) (by show ¬ (j ≤ 40 ∧ _); omega)).trans (b4 r r0 r1 j j0 j1)
  · refine ⟨⟨Int.le_refl 0, by show (0 : Int) ≤ 240; omega, fun j j0 j1 => by have j1 : j < 0 := j1; omega⟩, ⟨by show 0 ≤ bLc S + 1; omega, by show bLc S + 1 ≤ 6; omega⟩, k3, fun l l0 l1 => ?_, k5, k6⟩
    have l1 : l < bLc S + 1 := l1
    show LOK (fuD (bD S) (bLc S) D l) ∧ YOK (fuL (bE S) (bLc S) e0Y l) ∧ yRn (fuL (bE S) (bLc S) e0Y l) < bRc S ∧ yOwn (fuL (bE S) (bLc S) e0Y l) = owS (fuL (bE S) (bLc S) e0Y l)
    by_cases e : l = bLc S
    · rw [e, fuL_same, show fuD (bD S) (bLc S) D (bLc S) = D from if_pos rfl]
      exact ⟨hD, e0Y_ok, by show (-1 : Int) < bRc S; omega, rfl⟩
    · rw [fuL_ne e, show fuD (bD S) (bLc S) D l = bD S l from if_neg e]
      exact k4 l l0 (by omega)
  · show z.1 < 70
    rcases zz with y | y | y | y
    · rw [y]; decide
    · rw [y]; decide
    · rw [y]; decide
    · omega
def LaA (S : BaS) (x : Int) (S' : BaS) : Prop := (bLc S = 6 ∧ x = -1 ∧ S' = S) ∨ (bLc S < 6 ∧ ∃ r, LaF S r ∧ ((r.1 ≠ -1 ∧ x = -1 ∧ S' = S) ∨ (r.1 = -1 ∧ ∃ f, (∀ j : Int, 0 ≤ j → j < xEa r.2 → PaQ (xCn r.2) f j) ∧ LOK (dOf r.2 f) ∧ x = bLc S ∧ S' = sLd S (dOf r.2 f))))
theorem lsN_f {b : Int → Int} {n : Int} : ∀ (m : Nat) {i : Int} {X : DrS}, XOK X → 0 ≤ i → i ≤ n → -1 ≤ (lsN b n m i X).1 ∧ (lsN b n m i X).1 ≤ n
  | 0, i, X, _, h0, h1 => ⟨by show (-1 : Int) ≤ -1; omega, by show (-1 : Int) ≤ n; omega⟩
  | m + 1, i, X, hX, h0, h1 => by
    obtain ⟨s1, s2, -⟩ := skS_b b n i
    have s2 := s2 h1
    simp only [lsN]
    split
    · rename_i q
      have l1 : skS b n i < n := hrS_lt (b := b) (by omega) (by omega)
      split
      · rename_i q1
        obtain ⟨a1, a2, a3⟩ := stS_ok hX (by omega) (by omega) q1
        exact lsN_f m a1 (by omega) a3
      · exact stS_f hX (by omega) (by omega)
    · exact ⟨by show (-1 : Int) ≤ -1; omega, by show (-1 : Int) ≤ n; omega⟩
theorem laR_f {b : Int → Int} {n : Int} {cn hv ws sk wt : Int → Int} (hz : zrC cn hv ws) (hn : 0 ≤ n) : -1 ≤ (laR b n (x0S cn hv ws sk wt)).1 ∧ (laR b n (x0S cn hv ws sk wt)).1 ≤ n := by
  obtain ⟨s1, s2, -⟩ := skS_b b n 0
  have s2 := s2 hn
  unfold laR
  split
  · exact ⟨by show -1 ≤ skS b n 0; omega, s2⟩
  · rename_i q1
    have l1 : skS b n 0 < n := hrS_lt (b := b) (by omega) (by omega)
    obtain ⟨a1, a2, a3, a4, a5⟩ := nuS_b (b := b) (n := n) (i := skS b n 0 + 1) (lo := 1) (hi := 4) (by omega) (by omega)
    split
    · exact ⟨a3, a4⟩
    · rename_i q2
      have hX := laR_x0 (b := b) (n := n) (sk := sk) (wt := wt) hz.1 hz.2.1 hz.2.2 (i := skS b n 0 + 1) ⟨by omega, by omega⟩ (by omega)
      split
      · exact lsN_f 240 hX (by omega) a2
      · rename_i q3
        split
        · rename_i q4
          have := lsN_ok (b := b) 240 hX (by omega) a2 (by omega)
          exact ⟨by show -1 ≤ (lsN b n 240 _ _).2.1; omega, by show (lsN b n 240 _ _).2.1 ≤ n; omega⟩
        · exact ⟨by show (-1 : Int) ≤ -1; omega, by show (-1 : Int) ≤ n; omega⟩
theorem ruR_f (b : Int → Int) (n : Int) (hn : 0 ≤ n) : -1 ≤ (ruR b n).1 ∧ (ruR b n).1 ≤ n := by
  have h := ruL_b b n hn 240 (cl2 b n 0 []) (cl2_b hn (by omega) hn (by simp [flC]))
  rw [ruL_eq] at h
  unfold ruR
  split
  · exact ⟨h.1, h.2.1⟩
  · rename_i q
    have h2 := h.2.2 (by show (ruL b n).1 = -1; omega)
    have h3 : 0 < (ruL b n).2.1 := h2.1
    split
    · exact ⟨by show -1 ≤ (ruL b n).2.1; omega, by show (ruL b n).2.1 ≤ n; omega⟩
    · exact ⟨by show (-1 : Int) ≤ -1; omega, by show (-1 : Int) ≤ n; omega⟩
/-- the same row, another function beyond its end -/
theorem j_ext {w : MC} {n1 n2 pc : Nat} {L : List (Option AV)} {st : List AV} {h : AH} {n : Nm} {len : Nat} {f f' : Int → Int} (hh : h n = some (oI len f)) (e : ∀ j : Nat, j < len → f j = f' j) (kk : J w n1 n2 pc L st (up h n (oI len f'))) : J w n1 n2 pc L st h := by
  obtain ⟨p, l, ev, R, s, m, args, below, meth, c, Q, G, B, ρ0, h0⟩ := w
  intro ρ H locs ls hR hA hs hL hl hS
  obtain ⟨⟨c1, c2⟩, -, -⟩ := hR.1 n _ hh
  refine kk ρ H locs ls (hR.put hh (fun q _ => rfl) ⟨c1, c2.trans (congrArg some (arrV_congr fun j hj => ?_))⟩ trivial) (hA.tr (up_ag hh ρ)) (fun v hv => (hs v hv).w) (fun v hv => (hL v hv).w) hl hS
  show pv 0 (f j) = pv 0 (f' j)
  rw [e j hj]

set_option maxRecDepth 100000 in
set_option maxHeartbeats 4000000 in
theorem ev_X10_land_a {k : WC} {d : Nat} {h : AH} {S : BaS} (hd : 10 ≤ d) (hB : BarnAt h S)  : Ev k d mdX10_land h [vR (0, 0)] 12 800 (pe fun v h' => ∃ (x : Int) (S' : BaS), v = vI x ∧ LaA S x S' ∧ BarnAt h' S' ∧ Fr isBa h h') := by
  obtain ⟨⟨⟨zb0, zb11, zb12, zb13, zb14, zb141, zb15, zb18⟩, zTp, zRd⟩, zSp, zTw, zSt, zL, zK⟩ := id hB
  obtain ⟨zT1, ⟨zlc0, zlc1⟩, ⟨zrc0, zrc1⟩, zKl, zKr, zKw, ⟨zto0, zto1⟩, zse0, zse1⟩ := id zK
  by_cases zlc : bLc S < 6
  · skip
    obtain ⟨⟨i1, ff1, nu1, X1, zLo, zLa⟩, i2, ff2, cl2_, cf2, zRo⟩ := id zRd
    refine Ev.mk (by decide +kernel) [_] rfl (Nat.le_of_ble_eq_true rfl) (fun w hc he => ?_)
    refine j_aload_n hc dX10_land_0 rfl ?_
    refine j_get hc dX10_land_1 fX10_99 zb0 rfl ?_
    refine j_bipush hc dX10_land_4 (by decide) ?_
    refine j_icmp_ge (tgt := 20) hc dX10_land_6 (by decide) ⟨by omega, by omega⟩ ⟨by omega, by omega⟩ (fun zc1 => ?_) (fun zc1 => ?_)
    · exact absurd zlc (by omega)
    · refine j_aload_n hc dX10_land_9 rfl ?_
      refine j_get hc dX10_land_10 fX10_21 zb0 rfl ?_
      refine j_callV (d' := d - 1) hc dX10_land_13 vX10_94 zLo (ev_X1_findFault (b := bB S) (n := bN S) (by omega) zLo zLa zTp zT1) rfl (by omega) (by omega) (by omega) rfl rfl (Nat.le_of_ble_eq_true rfl) (retE fun zv13 zq13 zp13 => ?_)
      obtain ⟨cn, hv, ws, i9, ff9, nu9, X9, zz1, zz2, zz3, zv, zLo9, zLa9, zX9, zF9⟩ := zp13
      subst zv
      have zB9 := hB.readers (zF9.mono fun z zz => ⟨zz.1, by omega⟩) (zRd.l zLo9 zLa9 zF9)
      have zlaF : LaF S (laR (bB S) (bN S) (x0S cn hv ws (xSk X1) (xWt X1))) := ⟨cn, hv, ws, _, _, ⟨zz1, zz2, zz3⟩, rfl⟩
      have zB_q13 := (zF9 _ (by show ¬ (_ ∧ _); decide)).trans zb0
      have zA11_q13 := (zF9 _ (by show ¬ (_ ∧ _); decide)).trans zb11
      have zA12_q13 := (zF9 _ (by show ¬ (_ ∧ _); decide)).trans zb12
      have zA13_q13 := (zF9 _ (by show ¬ (_ ∧ _); decide)).trans zb13
      have zA15_q13 := (zF9 _ (by show ¬ (_ ∧ _); decide)).trans zb15
      have zA18_q13 := (zF9 _ (by show ¬ (_ ∧ _); decide)).trans zb18
      have zT_q13 := (zF9 _ (by show ¬ (_ ∧ _); decide)).trans zTp.1
      have zT2_q13 := (zF9 _ (by show ¬ (_ ∧ _); decide)).trans zTp.2
      have zbd := laR_f (b := bB S) (n := bN S) (sk := xSk X1) (wt := xWt X1) (⟨zz1, zz2, zz3⟩ : zrC cn hv ws) zT1.1
      have zn240 := zT1.2.1
      have zfree : zq13 (30, bLc S) = none := (zF9 _ (by simp)).trans (zL.2.1 (bLc S) (by omega) (by omega) _ (Or.inl ⟨by simp, by simp, rfl⟩))
      refine j_iconst hc dX10_land_16 ?_
      refine j_icmp_eq (tgt := 22) hc dX10_land_17 (by decide) ⟨by omega, by omega⟩ ⟨by omega, by omega⟩ (fun zc2 => ?_) (fun zc2 => ?_)
      · have zl1 : (laR (bB S) (bN S) (x0S cn hv ws (xSk X1) (xWt X1))).1 = -1 := zc2
        refine j_aload_n hc dX10_land_22 rfl ?_
        refine j_get hc dX10_land_23 fX10_34 zB_q13 rfl ?_
        refine j_aload_n hc dX10_land_26 rfl ?_
        refine j_get hc dX10_land_27 fX10_99 zB_q13 rfl ?_
        refine j_newq (nm := (30, bLc S)) (zq := 20) rfl hc dX10_land_30 wX10_32 zfree (by omega) (by omega) ?_
        generalize ezh1 : up _ _ _ = zh1
        have zB_zh1 := (congrFun ezh1 _).symm.trans ((up_ne (by simp)).trans zB_q13)
        have zA11_zh1 := (congrFun ezh1 _).symm.trans ((up_ne (by simp)).trans zA11_q13)
        have zA12_zh1 := (congrFun ezh1 _).symm.trans ((up_ne (by simp)).trans zA12_q13)
        have zA13_zh1 := (congrFun ezh1 _).symm.trans ((up_ne (by simp)).trans zA13_q13)
        have zA15_zh1 := (congrFun ezh1 _).symm.trans ((up_ne (by simp)).trans zA15_q13)
        have zA18_zh1 := (congrFun ezh1 _).symm.trans ((up_ne (by simp)).trans zA18_q13)
        have zT_zh1 := (congrFun ezh1 _).symm.trans ((up_ne (by simp)).trans zT_q13)
        have zT2_zh1 := (congrFun ezh1 _).symm.trans ((up_ne (by simp)).trans zT2_q13)
        have zQ_zh1 := (congrFun ezh1 _).symm.trans ((up_ne (by simp)).trans zLo9)
        have zL_zh1 := (congrFun ezh1 _).symm.trans (up_same _ _ _)
        refine j_dup hc dX10_land_33 rfl ?_
        refine j_aload_n hc dX10_land_34 rfl ?_
        refine j_get hc dX10_land_35 fX10_21 zB_zh1 rfl ?_
        refine j_callI (d' := d - 1) hc dX10_land_38 iX10_102 (ev_X0_init (l := bLc S) (X := X9) (by omega) (by rw [zX9 zl1]; exact laR_ok zT1.1 zz1 zz2 zz3 zl1) zQ_zh1 (zLa9.fr fun j j0 j1 => by rw [← ezh1, up_ne (by simp; omega)]) zL_zh1 (fun j j0 j1 => by rw [← ezh1, up_ne (by simp; omega)]; exact (zF9 _ (by show ¬ (_ ∧ _); simp; omega)).trans (zL.2.1 (bLc S) (by omega) (by omega) _ (Or.inl ⟨by show 30 ≤ j; omega, j1, rfl⟩)))) rfl (by omega) (by omega) (by omega) rfl rfl (Nat.le_of_ble_eq_true rfl) (retN fun zq38 zp38 => ?_)
        obtain ⟨zf, zPa, zOK, zLA, zF8⟩ := zp38
        have zX9 := zX9 zl1
        have zB_q38 := (zF8 _ (fun y => by simp at y)).trans zB_zh1
        have zA11_q38 := (zF8 _ (fun y => by simp at y)).trans zA11_zh1
        have zT_q38 := (zF8 _ (fun y => by simp at y)).trans zT_zh1
        have zT2_q38 := (zF8 _ (fun y => by simp at y)).trans zT2_zh1
        refine j_aast hc dX10_land_41 zA11_q38 (by decide) (by decide) rfl rfl zLA.1 (by omega) (by omega) ?_
        generalize ezh2 : up _ _ _ = zh2
        have zB_zh2 := (congrFun ezh2 _).symm.trans ((up_ne (by simp)).trans zB_q38)
        have zA11_zh2 := (congrFun ezh2 _).symm.trans (up_same _ _ _)
        have zT_zh2 := (congrFun ezh2 _).symm.trans ((up_ne (by simp)).trans zT_q38)
        have zT2_zh2 := (congrFun ezh2 _).symm.trans ((up_ne (by simp)).trans zT2_q38)
        have zL_zh2 := (congrFun ezh2 _).symm.trans ((up_ne (by simp)).trans zLA.1)
        refine j_aload_n hc dX10_land_42 rfl ?_
        refine j_get hc dX10_land_43 fX10_12 zB_zh2 rfl ?_
        refine j_iconst hc dX10_land_46 ?_
        refine j_put (fs' := [_, _]) hc dX10_land_47 pX10_83 zT_zh2 rfl rfl ?_
        generalize ezh3 : up _ _ _ = zh3
        have zB_zh3 := (congrFun ezh3 _).symm.trans ((up_ne (by simp)).trans zB_zh2)
        have zA11_zh3 := (congrFun ezh3 _).symm.trans ((up_ne (by simp)).trans zA11_zh2)
        have zT_zh3 := (congrFun ezh3 _).symm.trans (up_same _ _ _)
        have zT2_zh3 := (congrFun ezh3 _).symm.trans ((up_ne (by simp)).trans zT2_zh2)
        have zL_zh3 := (congrFun ezh3 _).symm.trans ((up_ne (by simp)).trans zL_zh2)
        refine j_aload_n hc dX10_land_50 rfl ?_
        refine j_dup hc dX10_land_51 rfl ?_
        refine j_get hc dX10_land_52 fX10_99 zB_zh3 rfl ?_
        refine j_iconst hc dX10_land_55 ?_
        refine j_iadd hc dX10_land_56 ?_
        refine j_put (fs' := [_, _, _, _, _, _, _, _, _, _, _, _, _]) hc dX10_land_57 pX10_99 zB_zh3 rfl rfl ?_
        generalize ezh4 : up _ _ _ = zh4
        have zB_zh4 := (congrFun ezh4 _).symm.trans (up_same _ _ _)
        have zA11_zh4 := (congrFun ezh4 _).symm.trans ((up_ne (by simp)).trans zA11_zh3)
        have zT_zh4 := (congrFun ezh4 _).symm.trans ((up_ne (by simp)).trans zT_zh3)
        have zT2_zh4 := (congrFun ezh4 _).symm.trans ((up_ne (by simp)).trans zT2_zh3)
        have zL_zh4 := (congrFun ezh4 _).symm.trans ((up_ne (by simp)).trans zL_zh3)
        refine j_aload_n hc dX10_land_60 rfl ?_
        refine j_get hc dX10_land_61 fX10_99 zB_zh4 rfl ?_
        refine j_iconst hc dX10_land_64 ?_
        refine j_isub hc dX10_land_65 ?_
        exact j_iret hc he dX10_land_66 rfl (by omega) (by omega) (by
          have zsLd : zh4 (0, 0) = some (oO 9 (CoF (sLd S (dOf X9 zf)))) := zB_zh4
          have zF6 : Fr (fun z => z = (0, 0) ∨ z = (11, 0) ∨ z = (1, 0) ∨ (30 ≤ z.1 ∧ z.1 ≤ 40 ∧ z.2 = bLc S)) zq13 zh4 := by
            refine Fr.tr (Fr.tr (show Fr _ zq13 zh1 from by rw [← ezh1]; exact Fr.up (Or.inr (Or.inr (Or.inr (by simp))))) (zF8.mono fun z zz => Or.inr (Or.inr (Or.inr zz)))) ?_
            rw [← ezh4, ← ezh3, ← ezh2]
            exact ((Fr.up (Or.inr (Or.inl rfl))).push (Or.inr (Or.inr (Or.inl rfl)))).push (Or.inl rfl)
          have zL6 : LandAt zh4 (bLc S) (dOf X9 zf) e0Y (fun _ => none) := LandAt.fr (fun j j0 j1 => by rw [← ezh4, up_ne (by simp; omega), ← ezh3, up_ne (by simp; omega), ← ezh2, up_ne (by simp; omega)]) zLA
          have zz := zB9.1.newland zlc zOK zF6 zsLd (zA11_zh4.trans (by rw [lnF_ru zlc0])) zT_zh4 zL6
          rw [zX9] at zz zPa zOK
          exact ⟨_, rfl, ⟨bLc S, _, by rw [show bLc S + 1 - 1 = bLc S by omega], Or.inr ⟨zlc, _, zlaF, Or.inr ⟨zl1, zf, zPa, zOK, rfl, rfl⟩⟩, zz.1, zB9.2.tr zz.2⟩⟩)
      · have zl1 : ¬ (laR (bB S) (bN S) (x0S cn hv ws (xSk X1) (xWt X1))).1 = -1 := zc2
        refine j_iconst hc dX10_land_20 ?_
        exact j_iret hc he dX10_land_21 rfl (by omega) (by omega) ⟨_, rfl, ⟨-1, S, rfl, Or.inr ⟨zlc, _, zlaF, Or.inl ⟨zl1, rfl, rfl⟩⟩, zB9⟩⟩
  refine Ev.mk (by decide +kernel) [_] rfl (Nat.le_of_ble_eq_true rfl) (fun w hc he => ?_)
  refine j_aload_n hc dX10_land_0 rfl ?_
  refine j_get hc dX10_land_1 fX10_99 zb0 rfl ?_
  refine j_bipush hc dX10_land_4 (by decide) ?_
  refine j_icmp_ge (tgt := 20) hc dX10_land_6 (by decide) ⟨by omega, by omega⟩ ⟨by omega, by omega⟩ (fun zc1 => ?_) (fun zc1 => ?_)
  · refine j_iconst hc dX10_land_20 ?_
    exact j_iret hc he dX10_land_21 rfl (by omega) (by omega) ⟨_, rfl, ⟨-1, S, rfl, Or.inl ⟨by omega, rfl, rfl⟩, hB, Fr.rf _ _⟩⟩
  · exact absurd zc1 (by omega)
