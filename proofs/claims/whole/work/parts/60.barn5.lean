/-! ===== edge, news, after ===== -/
theorem PlnHas.cost {h h' : AH} {l : Int} {D : LaS} (hD : LOK D) {E : LaY} {ru : RU} {cs c9 : Int} {wf : Option Nm} {kf bf lf wl lf' wl' : Int → Int} (hP : PlnHas h l D E ru 5 cs wf kf bf lf wl) (hc0 : 0 ≤ c9) (hc1 : c9 ≤ 30) (h0 : h' (50, 6 * l + 5) = some (oO 2 (pF (6 * l + 5) l 1 c9 wf (gnS l 1)))) (h4 : h' (54, 6 * l + 5) = some (oI 4 lf')) (h5 : h' (55, 6 * l + 5) = some (oI 4 wl')) (q4 : ∀ t : Int, 0 ≤ t → t < 4 → lf' t = 0) (q5 : ∀ t : Int, 0 ≤ t → t < 4 → wl' t = 0) (hq : ∀ q : Nat, q ≠ 50 → q ≠ 54 → q ≠ 55 → h' (q, 6 * l + 5) = h (q, 6 * l + 5)) : PlnHas h' l D E ru 5 c9 wf kf bf lf' wl' := by
  have d2 := hD.2.1
  obtain ⟨h1, h2, h3, ⟨a1, a2, a3, a4, a5, ⟨af, a6⟩, a7⟩, hW⟩ := hP
  refine ⟨hc0, hc1, fun z => absurd rfl z, ⟨h0, (hq 51 (by omega) (by omega) (by omega)).trans a2, (hq 52 (by omega) (by omega) (by omega)).trans a3, h4, h5, ⟨af, (hq 56 (by omega) (by omega) (by omega)).trans a6⟩, a7.zero hD q4⟩, ?_⟩
  rcases hW with ⟨b1, b2, b3⟩ | ⟨b1, vf, b2, b3⟩
  · exact Or.inl ⟨b1, (hq 53 (by omega) (by omega) (by omega)).trans b2, fun t z0 z1 => ⟨q5 t z0 (by omega), by rw [q4 t z0 (by omega)]; omega⟩⟩
  · refine Or.inr ⟨b1, vf, (hq 53 (by omega) (by omega) (by omega)).trans b2, fun t z0 z1 => ?_⟩
    rw [q5 t z0 (by omega), q4 t z0 (by omega)]
    exact ⟨by omega, by omega, fun n n1 n2 => by omega⟩
def PlZ (S : BaS) (l : Int) (h h' : AH) : Prop := ∃ (pl' : Int → Option Nm) (cs : Int) (wf : Option Nm) (kf bf lf wl : Int → Int), LandX h' l (bD S l) (bE S l) (ruC S l) 5 pl' ∧ PlnHas h' l (bD S l) (bE S l) (ruC S l) 5 cs wf kf bf lf wl ∧ RuOK h' (bE S l) (ruC S l) ∧ Fr (isSp S l 5) h h'
theorem PlZ.barn {S : BaS} {l : Int} {h h' : AH} (r : PlZ S l h h') (a : BarnAt h S) (l0 : 0 ≤ l) (l1 : l < bLc S) : BarnAt h' S := by
  obtain ⟨pl', cs, wf, kf, bf, lf, wl, h1, h2, h4, h5⟩ := r
  exact a.plan l0 l1 (h5.mono fun z zz => isSp_lo (by omega) (by omega) zz) (h1.join h2) h4
theorem srj5 : srj 5 = 1 := by unfold srj; rw [if_pos rfl]
set_option maxRecDepth 100000 in
set_option maxHeartbeats 4000000 in
theorem lp_X10_edge {k : WC} {d : Nat} {w : MC} {h : AH} {S : BaS} {l n s a : Int} {z5 : Option AV} {Po : Option AV → AH → Prop} (hd : 8 ≤ d) (hD : LOK (bD S l)) (hE : YOK (bE S l)) (hn1 : 1 ≤ n) (hn : n ≤ 12) (hs0 : 0 ≤ s) (hs1 : s < lSe (bD S l)) (ha0 : 0 ≤ a) (ha1 : a ≤ 40) (hpo : ∀ h2, PlZ S l h h2 → Po (some (vI (fsi (fun c : Nat => decide (kpS (bD S l) (bE S l) (ruC S l) c 1 n s a = 0)) 31 0))) h2) (hc : Cx w k d 6 3975 mdX10_edge) (he : Ends w 6 3975 (Po)) : ∀ (zm : Nat) (c : Nat) (h' : AH), 31 - c = zm → c ≤ 31 → (∀ j : Nat, j < c → ¬ kpS (bD S l) (bE S l) (ruC S l) j 1 n s a = 0) → PlZ S l h h' → J w 6 3975 28 [some (vR (0, 0)), some (vI l), some (vI n), some (vI s), some (vI a), z5, some (vR (50, 6 * l + 5)), some (vI c)] [] h' := by
  intro zm
  induction zm using Nat.strongRecOn with
  | _ zm ih =>
    intro c h' hm hcc hj hY
    obtain ⟨pl8, cs8, wf8, kf8, bf8, lf8, wl8, zX8, zH8, zR8, zF8⟩ := id hY
    have zP8 := zH8.2.2.2.1
    rw [srj5] at zP8
    refine j_iload hc dX10_edge_28 rfl ?_
    refine j_bipush hc dX10_edge_30 (by decide) ?_
    refine j_icmp_gt (tgt := 70) hc dX10_edge_32 (by decide) ⟨by omega, by omega⟩ ⟨by omega, by omega⟩ (fun zc1 => ?_) (fun zc1 => ?_)
    · refine j_iconst hc dX10_edge_70 ?_
      exact j_iret hc he dX10_edge_71 rfl (by omega) (by omega) (by have hq := hpo _ hY; rw [fsi_no (fun i i0 hi => by simpa using hj i (by omega))] at hq; exact hq)
    · refine j_aload hc dX10_edge_35 rfl ?_
      refine j_iload hc dX10_edge_37 rfl ?_
      refine j_callV (d' := d - 1) hc dX10_edge_39 vX10_224 zP8.1 (ev_X2_changeCost (c9 := c) (by omega) zP8.1 zP8.2.2.2.1 zP8.2.2.2.2.1) rfl (by omega) (by omega) (by omega) rfl rfl (Nat.le_of_ble_eq_true rfl) (retN fun zq39 zp39 => ?_)
      obtain ⟨zg50, ⟨lf7, zg54, zl7⟩, ⟨wl7, zg55, zw7⟩, zF7⟩ := zp39
      have zH7 := PlnHas.cost hD zH8 (c9 := c) (by omega) (by omega) zg50 zg54 zg55 zl7 zw7 (fun q q0 q1 q2 => zF7 _ (by simp [q0, q1, q2]))
      have zX7 : LandX zq39 l (bD S l) (bE S l) (ruC S l) 5 _ := zX8.fr fun z hz => zF7 z (fun y => by rcases y with rfl | rfl | rfl <;> (simp at hz <;> omega))
      have zR7 := RuOK.fr zR8 fun z z0 z1 => zF7 z (fun y => by rcases y with rfl | rfl | rfl <;> simp at z0)
      have zF7b : Fr (isSp S l 5) h' zq39 := zF7.mono fun z zz => Or.inl (Or.inr (by rcases zz with rfl | rfl | rfl <;> simp))
      have zP7 := zH7.2.2.2.1
      rw [srj5] at zP7
      refine j_aload hc dX10_edge_42 rfl ?_
      refine j_iload_n hc dX10_edge_44 rfl ?_
      refine j_iload_n hc dX10_edge_45 rfl ?_
      refine j_callV (d' := d - 1) hc dX10_edge_46 vX10_227 zg50 (ev_X2_reckonTo (ru := ruC S l) (by omega) zX7.1 hD hE zP7 zR7 hn1 hn hs0 hs1 zH7.1 zH7.2.1 (by omega) (by omega)) rfl (by omega) (by omega) (by omega) rfl rfl (Nat.le_of_ble_eq_true rfl) (retN fun zq46 zp46 => ?_)
      obtain ⟨kf6, bf6, lf6, zP6, zn6, zm6, zR6, zF6⟩ := zp46
      have zF6b : Fr (isSp S l 5) zq39 zq46 := zF6.mono fun z zz => isPl_sp zz
      have zX6 : LandX zq46 l (bD S l) (bE S l) (ruC S l) 5 _ := zX7.fr fun z hz => zF6 z (fun y => by
        rcases y with y | y
        · rcases y with rfl | rfl | rfl | rfl <;> (simp at hz <;> omega)
        · have := isOwn_lo y; rcases hz with hz | hz <;> omega)
      have zH6 : PlnHas zq46 l (bD S l) (bE S l) (ruC S l) 5 c wf8 kf6 bf6 lf6 wl7 := ⟨zH7.1, zH7.2.1, zH7.2.2.1, by rw [srj5]; exact zP6, PlanW.mono zm6 (zH7.2.2.2.2.fr (zF6 _ (fun y => by
        rcases y with y | y
        · rcases y with y | y | y | y <;> simp at y
        · have := isOwn_lo y; simp at this)))⟩
      have zZ6 : PlZ S l h zq46 := ⟨_, _, _, _, _, _, _, zX6, zH6, zR6, (zF8.tr zF7b).tr zF6b⟩
      have zrow := (PlV.row hD zP6.2.2.2.2.2.2 hn1 hs0 hs1 zn6 ha0 ha1).1
      have zkb := kpS_b hD hE (ru := ruC S l) (cs := c) (sr := 1) (n := n) (s := s) ha0
      refine j_aload hc dX10_edge_49 rfl ?_
      refine j_iload_n hc dX10_edge_51 rfl ?_
      refine j_iload_n hc dX10_edge_52 rfl ?_
      refine j_iload hc dX10_edge_53 rfl ?_
      refine j_callV (d' := d - 1) hc dX10_edge_55 vX10_187 zP6.1 (ev_X2_keptAt (by omega) zX6.1 hD zP6.1 zP6.2.1 hn1 hn hs0 hs1 ha0 ha1) rfl (by omega) (by omega) (by omega) rfl rfl (Nat.le_of_ble_eq_true rfl) (ret1 ?_)
      rw [zrow]
      refine j_if_ne (b := 0) (tgt := 64) hc dX10_edge_58 (by decide) ⟨by omega, by omega⟩ (fun zc2 => ?_) (fun zc2 => ?_)
      · refine j_iinc (L' := [_, _, _, _, _, _, _, _]) hc dX10_edge_64 rfl (Nat.le_of_ble_eq_true rfl) rfl ?_
        refine j_goto (tgt := 28) hc dX10_edge_67 (by decide) ?_
        exact ih _ (by omega) (c + 1) _ rfl (by omega) (fun j j1 => by by_cases e : j = c; (· rw [e]; assumption); exact hj j (by omega)) zZ6
      · refine j_iload hc dX10_edge_61 rfl ?_
        exact j_iret hc he dX10_edge_63 rfl (by omega) (by omega) (by have hq := hpo _ zZ6; rw [fsi_at (j := c) (by omega) (by omega) (fun i i0 hi => by simpa using hj i hi) (by simpa using by assumption)] at hq; exact hq)
set_option maxRecDepth 100000 in
set_option maxHeartbeats 4000000 in
theorem ev_X10_edge_a {k : WC} {d : Nat} {h : AH} {S : BaS} {l n s a : Int} (hd : 9 ≤ d) (hB : BarnAt h S) (hil : inI l) (hin : inI n) (his : inI s) (hia : inI a)  : Ev k d mdX10_edge h [vR (0, 0), vI l, vI n, vI s, vI a] 6 3975 (pe fun v h' => v = vI (aEdge S l n s a) ∧ BarnAt h' S ∧ Fr isBa h h') := by
  obtain ⟨⟨⟨zb0, zb11, zb12, zb13, zb14, zb141, zb15, zb18⟩, zTp, zRd⟩, zSp, zTw, zSt, zL, zK⟩ := id hB
  obtain ⟨zT1, ⟨zlc0, zlc1⟩, ⟨zrc0, zrc1⟩, zKl, zKr, zKw, ⟨zto0, zto1⟩, zse0, zse1⟩ := id zK
  by_cases hcs : laV S l n s a
  · skip
    obtain ⟨hvl, ⟨hn1, hn⟩, ⟨hs0, hs1⟩, ha0, ha1⟩ := id hcs
    obtain ⟨hl0, hl1⟩ := id hvl
    obtain ⟨hD, hE, hyr, hyo⟩ := zKl l hl0 hl1
    obtain ⟨pl, hL, hpl⟩ := zL.1 l hl0 hl1
    have hd1 := hD.1
    have hd2 := hD.2.1
    refine Ev.mk (by decide +kernel) [_, _, _, _, _, _, _, _] rfl (Nat.le_of_ble_eq_true rfl) (fun w hc he => ?_)
    refine j_aload_n hc dX10_edge_0 rfl ?_
    refine j_iload_n hc dX10_edge_1 rfl ?_
    refine j_iload_n hc dX10_edge_2 rfl ?_
    refine j_iload_n hc dX10_edge_3 rfl ?_
    refine j_iload hc dX10_edge_4 rfl ?_
    refine j_callV (d' := d - 1) hc dX10_edge_6 vX10_199 zb0 (ev_X10_landFor_ok (by omega) hB hcs) rfl (by omega) (by omega) (by omega) rfl rfl (Nat.le_of_ble_eq_true rfl) (ret1 ?_)
    refine j_astore (L' := [_, _, _, _, _, _, _, _]) hc dX10_edge_9 (Nat.le_of_ble_eq_true rfl) rfl ?_
    refine j_aload hc dX10_edge_11 rfl ?_
    refine j_ifnonnull (tgt := 18) hc dX10_edge_13 (by decide) (fun zc1 => ?_) (fun zc1 => ?_)
    · refine j_aload hc dX10_edge_18 rfl ?_
      refine j_callV (d' := d - 1) hc dX10_edge_20 vX10_220 hL.1 (ev_X0_probePlan (ru := ruC S l) (by omega) hD ⟨pl, hL, hpl⟩) rfl (by omega) (by omega) (by omega) rfl rfl (Nat.le_of_ble_eq_true rfl) (retE fun zv20 zq20 zp20 => ?_)
      obtain ⟨zv20, pl8, cs8, wf8, kf8, bf8, lf8, wl8, zX8, zH8, zF8⟩ := zp20
      subst zv20
      have zR8 := RuOK.fr (zL.ru zK hl0 hl1) (fun z z0 z1 => zF8 z (fun y => by rcases y with y | y <;> first | omega | (rw [y] at z0; simp at z0)))
      refine j_astore (L' := [_, _, _, _, _, _, _, _]) hc dX10_edge_23 (Nat.le_of_ble_eq_true rfl) rfl ?_
      refine j_iconst hc dX10_edge_25 ?_
      refine j_istore (L' := [_, _, _, _, _, _, _, _]) hc dX10_edge_26 (Nat.le_of_ble_eq_true rfl) rfl ?_
      exact lp_X10_edge (S := S) (l := l) (by omega) hD hE hn1 hn hs0 hs1 ha0 ha1 (fun h2 zY => ⟨_, rfl, by unfold aEdge; rw [if_pos hcs], zY.barn hB hl0 hl1, (by obtain ⟨_, _, _, _, _, _, _, _, _, _, zF⟩ := zY; exact zF.mono fun z zz => isLo_ba (isSp_lo (S := S) (by omega) (by omega) zz))⟩) hc he _ 0 _ rfl (by omega) (fun j j1 => by omega) ⟨_, _, _, _, _, _, _, zX8, zH8, zR8, zF8.mono fun z zz => Or.inl zz⟩
    · exact absurd zc1 (by simp)
  · skip
    refine Ev.mk (by decide +kernel) [_, _, _, _, _, _, _, _] rfl (Nat.le_of_ble_eq_true rfl) (fun w hc he => ?_)
    refine j_aload_n hc dX10_edge_0 rfl ?_
    refine j_iload_n hc dX10_edge_1 rfl ?_
    refine j_iload_n hc dX10_edge_2 rfl ?_
    refine j_iload_n hc dX10_edge_3 rfl ?_
    refine j_iload hc dX10_edge_4 rfl ?_
    refine j_callV (d' := d - 1) hc dX10_edge_6 vX10_199 zb0 (ev_X10_landFor_no (by omega) hB hil hin his hia hcs) rfl (by omega) (by omega) (by omega) rfl rfl (Nat.le_of_ble_eq_true rfl) (ret1 ?_)
    refine j_astore (L' := [_, _, _, _, _, _, _, _]) hc dX10_edge_9 (Nat.le_of_ble_eq_true rfl) rfl ?_
    refine j_aload hc dX10_edge_11 rfl ?_
    refine j_ifnonnull (tgt := 18) hc dX10_edge_13 (by decide) (fun zc1 => ?_) (fun zc1 => ?_)
    · exact absurd rfl zc1
    · refine j_iconst hc dX10_edge_16 ?_
      exact j_iret hc he dX10_edge_17 rfl (by omega) (by omega) ⟨_, rfl, by unfold aEdge; rw [if_neg hcs], hB, Fr.rf _ _⟩
theorem nws_eq {D : LaS} {E : LaY} (hD : LOK D) (hE : YOK E) {ru : RU} {kf bf lf gf : Int → Int} {n s a : Int} (hV : PlV D E ru (lCo D) 2 kf bf lf) (hn2 : 2 ≤ n) (hn : n ≤ 12) (hs0 : 0 ≤ s) (hs1 : s < lSe D) (ha0 : 0 ≤ a) (ha1 : a ≤ 40) (hl : n ≤ lf (laN D (n - 1).toNat s)) (hg : ∀ b : Int, 0 ≤ b → b ≤ 40 → gf b = gaS D 2 b) :
    ntS D E (lCo D) gf bf n s a = nwS D E (lCo D) n s a ∧ ∀ b : Int, 0 ≤ b → b ≤ 40 → 0 ≤ bf (ceS (n - 1) (nxS D s) + b) ∧ bf (ceS (n - 1) (nxS D s) + b) ≤ 158884909987921920 := by
  have zn := nxS_b hD hs0
  have hl2 : n - 1 ≤ lf (laN D (n - 1 - 1).toNat (nxS D s)) := by
    rw [show (n - 1).toNat = (n - 1 - 1).toNat + 1 by omega] at hl
    simp only [laN] at hl
    omega
  have hr : ∀ b : Int, 0 ≤ b → b ≤ 40 → bf (ceS (n - 1) (nxS D s) + b) = bpS D E (lCo D) 2 (n - 1) (nxS D s) b := fun b b0 b1 => (PlV.row hD hV (n := n - 1) (by omega) zn.1 zn.2 hl2 b0 b1).2 (Or.inl rfl)
  refine ⟨?_, fun b b0 b1 => ?_⟩
  · unfold nwS
    refine ntS_congr hD hE hs0 ha0 ha1 hg fun b b0 b1 => ?_
    rw [hr b b0 b1]
    try dsimp only
    congr 1
    omega
  · rw [hr b b0 b1]
    exact bpS_b hD hE (by omega) (by omega) zn.1 zn.2 b0 b1
set_option maxRecDepth 100000 in
set_option maxHeartbeats 4000000 in
theorem ev_X10_news_a {k : WC} {d : Nat} {h : AH} {S : BaS} {l n s a : Int} (hd : 8 ≤ d) (hB : BarnAt h S) (hil : inI l) (hin : inI n) (his : inI s) (hia : inI a)  : Ev k d mdX10_news h [vR (0, 0), vI l, vI n, vI s, vI a] 6 3975 (pe fun v h' => v = vL (aNews S l n s a) ∧ BarnAt h' S ∧ Fr isBa h h') := by
  obtain ⟨⟨⟨zb0, zb11, zb12, zb13, zb14, zb141, zb15, zb18⟩, zTp, zRd⟩, zSp, zTw, zSt, zL, zK⟩ := id hB
  obtain ⟨zT1, ⟨zlc0, zlc1⟩, ⟨zrc0, zrc1⟩, zKl, zKr, zKw, ⟨zto0, zto1⟩, zse0, zse1⟩ := id zK
  by_cases hcs : laV S l n s a
  · skip
    obtain ⟨hvl, ⟨hn1, hn⟩, ⟨hs0, hs1⟩, ha0, ha1⟩ := id hcs
    obtain ⟨hl0, hl1⟩ := id hvl
    obtain ⟨hD, hE, hyr, hyo⟩ := zKl l hl0 hl1
    obtain ⟨pl, hL, hpl⟩ := zL.1 l hl0 hl1
    have hd1 := hD.1
    have hd2 := hD.2.1
    refine Ev.mk (by decide +kernel) [_, _, _, _, _, _] rfl (Nat.le_of_ble_eq_true rfl) (fun w hc he => ?_)
    refine j_aload_n hc dX10_news_0 rfl ?_
    refine j_iload_n hc dX10_news_1 rfl ?_
    refine j_iconst hc dX10_news_2 ?_
    refine j_iload_n hc dX10_news_3 rfl ?_
    refine j_iload_n hc dX10_news_4 rfl ?_
    refine j_iload hc dX10_news_5 rfl ?_
    refine j_callV (d' := d - 1) hc dX10_news_7 vX10_183 zb0 (ev_X10_planAt_ok (by omega) hB (show plV S l 2 n s a from ⟨hcs, by omega, by omega⟩)) rfl (by omega) (by omega) (by omega) rfl rfl (Nat.le_of_ble_eq_true rfl) (retE fun zv7 zq7 zp7 => ?_)
    obtain ⟨zv8, zPl8⟩ := zp7
    subst zv8
    have zB8 := zPl8.barn hB hl0 hl1 (by omega) (by omega)
    obtain ⟨pl8, wf8, kf8, bf8, lf8, wl8, zX8, zH8, zn8, zR8, zF8⟩ := id zPl8
    have zsrj8 : srj (2) = 2 := by unfold srj; rw [if_neg (by omega)]
    have zP8 := zH8.2.2.2.1
    rw [zsrj8] at zP8
    have zV8 := zP8.2.2.2.2.2.2
    have zrow8 : ∀ b : Int, 0 ≤ b → b ≤ 40 → kf8 (ceS n s + b) = kpA S l (2) n s b ∧ ((2 : Int) = 2 ∨ (2 : Int) = 3 → bf8 (ceS n s + b) = bpA S l (2) n s b) := fun b b0 b1 => PlV.row hD zV8 hn1 hs0 hs1 zn8 b0 b1
    refine j_astore (L' := [_, _, _, _, _, _]) hc dX10_news_10 (Nat.le_of_ble_eq_true rfl) rfl ?_
    refine j_aload hc dX10_news_12 rfl ?_
    refine j_ifnull (tgt := 22) hc dX10_news_14 (by decide) (fun zc1 => ?_) (fun zc1 => ?_)
    · exact absurd zc1 (by simp)
    · refine j_iload_n hc dX10_news_17 rfl ?_
      refine j_iconst hc dX10_news_18 ?_
      refine j_icmp_ge (tgt := 26) hc dX10_news_19 (by decide) ⟨by omega, by omega⟩ ⟨by omega, by omega⟩ (fun zc2 => ?_) (fun zc2 => ?_)
      · obtain ⟨zgl, zgf, zgn, zg1, zg2, zg3⟩ := gains_at zX8.1 2
        have zne := nws_eq hD hE (a := a) zV8 (by omega) hn hs0 hs1 ha0 ha1 zn8 zg3
        refine j_aload hc dX10_news_26 rfl ?_
        refine j_iload_n hc dX10_news_28 rfl ?_
        refine j_iload_n hc dX10_news_29 rfl ?_
        refine j_iload hc dX10_news_30 rfl ?_
        refine j_callV (d' := d - 1) hc dX10_news_32 vX10_244 zP8.1 (ev_X2_bestIfTold (by omega) zX8.1 hD hE zP8.1 (by have := zP8.2.2.1; rw [show blS (bD S l) 2 = (lSe (bD S l)).toNat * 492 from if_pos (by omega)] at this; exact this) zgn zg1 (fun b b0 b1 => by rw [zg3 b b0 b1]; exact gaS_b hD b b0 b1) zne.2 (by omega) hn hs0 hs1 hD.2.2.1 hD.2.2.2.1 ha0 ha1) rfl (by omega) (by omega) (by omega) rfl rfl (Nat.le_of_ble_eq_true rfl) (ret1 ?_)
        rw [zne.1]
        refine j_aload hc dX10_news_35 rfl ?_
        refine j_iload_n hc dX10_news_37 rfl ?_
        refine j_iload_n hc dX10_news_38 rfl ?_
        refine j_iload hc dX10_news_39 rfl ?_
        refine j_callV (d' := d - 1) hc dX10_news_41 vX10_213 zP8.1 (ev_X2_bestAt (by omega) zX8.1 hD zP8.1 (by have := zP8.2.2.1; rw [show blS (bD S l) 2 = (lSe (bD S l)).toNat * 492 from if_pos (by omega)] at this; exact this) hn1 hn hs0 hs1 ha0 ha1) rfl (by omega) (by omega) (by omega) rfl rfl (Nat.le_of_ble_eq_true rfl) (ret1 ?_)
        rw [(zrow8 a ha0 ha1).2 (by omega)]
        refine j_lsub hc dX10_news_44 ?_
        exact j_lret hc he dX10_news_45 rfl (by omega) (by omega) ⟨_, rfl, by unfold aNews; rw [if_pos ⟨hcs, by omega⟩], zB8, zF8.mono fun z zz => isLo_ba (isSp_lo (S := S) (by omega) (by omega) zz)⟩
      · refine j_ldc2 (x := -1) hc dX10_news_22 kX10_203 (by decide) ?_
        exact j_lret hc he dX10_news_25 rfl (by omega) (by omega) ⟨_, rfl, by unfold aNews; rw [if_neg (fun z => by omega)], zB8, zF8.mono fun z zz => isLo_ba (isSp_lo (S := S) (by omega) (by omega) zz)⟩
  · skip
    refine Ev.mk (by decide +kernel) [_, _, _, _, _, _] rfl (Nat.le_of_ble_eq_true rfl) (fun w hc he => ?_)
    refine j_aload_n hc dX10_news_0 rfl ?_
    refine j_iload_n hc dX10_news_1 rfl ?_
    refine j_iconst hc dX10_news_2 ?_
    refine j_iload_n hc dX10_news_3 rfl ?_
    refine j_iload_n hc dX10_news_4 rfl ?_
    refine j_iload hc dX10_news_5 rfl ?_
    refine j_callV (d' := d - 1) hc dX10_news_7 vX10_183 zb0 (ev_X10_planAt_no (by omega) hB hil ⟨by omega, by omega⟩ hin his hia (fun z => hcs z.1)) rfl (by omega) (by omega) (by omega) rfl rfl (Nat.le_of_ble_eq_true rfl) (ret1 ?_)
    refine j_astore (L' := [_, _, _, _, _, _]) hc dX10_news_10 (Nat.le_of_ble_eq_true rfl) rfl ?_
    refine j_aload hc dX10_news_12 rfl ?_
    refine j_ifnull (tgt := 22) hc dX10_news_14 (by decide) (fun zc1 => ?_) (fun zc1 => ?_)
    · refine j_ldc2 (x := -1) hc dX10_news_22 kX10_203 (by decide) ?_
      exact j_lret hc he dX10_news_25 rfl (by omega) (by omega) ⟨_, rfl, by unfold aNews; rw [if_neg (fun z => hcs z.1)], hB, Fr.rf _ _⟩
    · exact absurd rfl zc1
def spN (D : LaS) (kq : Int → Int → Int) (s a : Int) : Nat → Int × (Int → Int)
  | 0 => (s, fun x => if x = a then 1 else 0)
  | i + 1 => (nxS D (spN D kq s a i).1, sp1 D kq (spN D kq s a i).1 (spN D kq s a i).2 (fun _ => 0) 41)
theorem spN_b {D : LaS} (hD : LOK D) {kq : Int → Int → Int} {s a : Int} (hs0 : 0 ≤ s) (hs1 : s < lSe D) : ∀ i : Nat, 0 ≤ (spN D kq s a i).1 ∧ (spN D kq s a i).1 < lSe D ∧ ∀ x : Int, 0 ≤ x → x ≤ 40 → 0 ≤ (spN D kq s a i).2 x ∧ (spN D kq s a i).2 x ≤ 492 ^ i
  | 0 => ⟨hs0, hs1, fun x _ _ => by show 0 ≤ (if x = a then (1 : Int) else 0) ∧ (if x = a then (1 : Int) else 0) ≤ 492 ^ 0; split <;> decide⟩
  | i + 1 => by
    obtain ⟨h1, h2, h3⟩ := spN_b hD (kq := kq) (a := a) hs0 hs1 i
    refine ⟨(nxS_b hD h1).1, (nxS_b hD h1).2, fun x x0 x1 => ?_⟩
    have h4 := sp1_b hD (kq := kq) (s := (spN D kq s a i).1) (B := 492 ^ i) (f := (spN D kq s a i).2) (g := fun _ => 0) h1 h3 (x := x) rfl 41 (Nat.le_refl _)
    refine ⟨h4.1, Int.le_trans h4.2 ?_⟩
    rw [Int.pow_succ]
    have : ((41 : Nat) : Int) * (12 * 492 ^ i) = 492 ^ i * 492 := by rw [← Int.mul_assoc, Int.mul_comm (492 ^ i)]; rfl
    omega
theorem spN_b6 {D : LaS} (hD : LOK D) {kq : Int → Int → Int} {s a : Int} (hs0 : 0 ≤ s) (hs1 : s < lSe D) {i : Nat} (hi : i ≤ 6) {x : Int} (x0 : 0 ≤ x) (x1 : x ≤ 40) : 0 ≤ (spN D kq s a i).2 x ∧ (spN D kq s a i).2 x ≤ 14183735261958144 := by
  have h1 := (spN_b hD (kq := kq) (a := a) hs0 hs1 i).2.2 x x0 x1
  have h2 : (492 : Int) ^ i ≤ 14183735261958144 := by
    rcases (by omega : i = 0 ∨ i = 1 ∨ i = 2 ∨ i = 3 ∨ i = 4 ∨ i = 5 ∨ i = 6) with rfl | rfl | rfl | rfl | rfl | rfl | rfl <;> decide
  omega
theorem wgN_congr {D : LaS} {sr : Int} {kq : Int → Int → Int} {s w x : Int} {f f' : Int → Int} (h : ∀ a : Int, 0 ≤ a → a ≤ 40 → f a = f' a) : ∀ m : Nat, m ≤ 41 → wgN D sr kq s w x f m = wgN D sr kq s w x f' m
  | 0, _ => rfl
  | m + 1, hm => by
    simp only [wgN]
    rw [wgN_congr h m (by omega), h m (by omega) (by omega)]
def afS (S : BaS) (l sr n s a t w x : Int) : Int := wgN (bD S l) sr (fun s a => kpA S l sr n s a) (spN (bD S l) (fun s a => kpA S l sr n s a) s a t.toNat).1 w x (spN (bD S l) (fun s a => kpA S l sr n s a) s a t.toNat).2 41
def aAft (S : BaS) (l sr n s a t w x : Int) : Int := if plV S l sr n s a ∧ (0 ≤ t ∧ t ≤ 6) ∧ 0 ≤ w ∧ w ≤ 4 then afS S l sr n s a t w x else -1
theorem kqA {S : BaS} (hK : BOK S) {l sr n : Int} (l0 : 0 ≤ l) (l1 : l < bLc S) (hn : 1 ≤ n) : kqOK (bD S l) (fun s a => kpA S l sr n s a) := fun s a s0 s1 a0 a1 => by
  obtain ⟨hD, hE, -⟩ := hK.2.2.2.1 l l0 l1
  have h1 := kpS_b hD hE (ru := ruC S l) (cs := lCo (bD S l)) (sr := sr) (n := n) (s := s) a0
  exact ⟨h1.1, h1.2, kpS_le hD hE hn a0⟩
set_option maxRecDepth 100000 in
set_option maxHeartbeats 4000000 in
theorem lp_X10_after {k : WC} {d : Nat} {w : MC} {h : AH} {l lq srq : Int} {D : LaS} {E : LaY} {pl : Int → Option Nm} {i sr cs : Int} {wf : Option Nm} {gn : Nm} {kf : Int → Int} {kq : Int → Int → Int} {n s a t wh x : Int} {S : BaS} (hd : 6 ≤ d) (hD : LOK D) (hkq : ∀ s a : Int, 0 ≤ s → s < lSe D → 0 ≤ a → a ≤ 40 → kf (ceS n s + a) = kq s a) (hkb : kqOK D kq) (hn1 : 1 ≤ n) (hn : n ≤ 12) (hs0 : 0 ≤ s) (hs1 : s < lSe D) (hsr0 : 0 ≤ sr) (hsr1 : sr ≤ 4) (ht0 : 0 ≤ t) (ht1 : t ≤ 6) (hw0 : 0 ≤ wh) (hw1 : wh ≤ 4) (hx : inI x) (hc : Cx w k d 6 3975 mdX10_after) (he : Ends w 6 3975 (pe fun v h' => v = vL (wgN D sr kq (spN D kq s a t.toNat).1 wh x (spN D kq s a t.toNat).2 41) ∧ (∃ b f, SprAt h' b f) ∧ Fr isSpr h h')) : ∀ (zm : Nat) (j : Nat) (b q : Int) (f : Int → Int) (h' : AH), 6 - j = zm → (j : Int) ≤ t → q = (spN D kq s a j).1 → (∀ x : Int, 0 ≤ x → x ≤ 40 → f x = (spN D kq s a j).2 x) → h' (0, 0) = some (oO 9 (CoF S)) → LandAt h' l D E pl → h' (50, i) = some (oO 2 (pF i l sr cs wf gn)) → h' (51, i) = some (oI ((lSe D).toNat * 492) kf) → SprAt h' b f → Fr isSpr h h' → J w 6 3975 72 [some (vR (0, 0)), some (vI lq), some (vI srq), some (vI n), some (vI s), some (vI a), some (vI t), some (vI wh), some (vI x), some (vR (50, i)), some (vI q), some (vI j)] [] h' := by
  intro zm
  induction zm using Nat.strongRecOn with
  | _ zm ih =>
    intro j b q f h' hm hjt hq hf zb0 hL zp50 zp51 hX hfr
    subst hq
    obtain ⟨zq1, zq2, -⟩ := spN_b hD (kq := kq) (a := a) hs0 hs1 j
    have zfb6 : ∀ y : Int, 0 ≤ y → y ≤ 40 → 0 ≤ f y ∧ f y ≤ 14183735261958144 := fun y y0 y1 => by rw [hf y y0 y1]; exact spN_b6 hD hs0 hs1 (by omega) y0 y1
    have hd2 := hD.2.1
    refine j_iload hc dX10_after_72 rfl ?_
    refine j_iload hc dX10_after_74 rfl ?_
    refine j_icmp_ge (tgt := 109) hc dX10_after_76 (by decide) ⟨by omega, by omega⟩ ⟨by omega, by omega⟩ (fun zc1 => ?_) (fun zc1 => ?_)
    · refine j_aload_n hc dX10_after_109 rfl ?_
      refine j_get hc dX10_after_110 fX10_56 zb0 rfl ?_
      refine j_aload hc dX10_after_113 rfl ?_
      refine j_iload_n hc dX10_after_115 rfl ?_
      refine j_iload hc dX10_after_116 rfl ?_
      refine j_iload hc dX10_after_118 rfl ?_
      refine j_iload hc dX10_after_120 rfl ?_
      refine j_callV (d' := d - 1) hc dX10_after_122 vX10_261 hX.2.1 (ev_X6_weigh (by omega) hL hD zp50 zp51 hX zfb6 hkq hkb hn1 hn zq1 zq2 hsr0 hsr1 hw0 hw1 hx) rfl (by omega) (by omega) (by omega) rfl rfl (Nat.le_of_ble_eq_true rfl) (ret1 ?_)
      exact j_lret hc he dX10_after_125 rfl (by omega) (by omega) (by (obtain rfl : t = j := by omega); exact ⟨_, rfl, by rw [wgN_congr hf 41 (Nat.le_refl _), show ((j : Int)).toNat = j from rfl], ⟨_, _, hX⟩, hfr⟩)
    · refine j_aload_n hc dX10_after_79 rfl ?_
      refine j_get hc dX10_after_80 fX10_56 zb0 rfl ?_
      refine j_aload hc dX10_after_83 rfl ?_
      refine j_iload_n hc dX10_after_85 rfl ?_
      refine j_iload hc dX10_after_86 rfl ?_
      refine j_callV (d' := d - 1) hc dX10_after_88 vX10_254 hX.2.1 (ev_X6_step (by omega) hL hD zp50 zp51 hX zfb6 hkq hkb hn1 hn zq1 zq2) rfl (by omega) (by omega) (by omega) rfl rfl (Nat.le_of_ble_eq_true rfl) (retN fun zq88 zp88 => ?_)
      obtain ⟨g8, zg8, zS8, zF8⟩ := zp88
      have zb0b := (zF8 (0, 0) (by show ¬ (_ = 16 ∨ _ = 17); decide)).trans zb0
      have zp50b := (zF8 (50, i) (by show ¬ ((50 : Nat) = 16 ∨ (50 : Nat) = 17); decide)).trans zp50
      have zp51b := (zF8 (51, i) (by show ¬ ((51 : Nat) = 16 ∨ (51 : Nat) = 17); decide)).trans zp51
      have hLb : LandAt zq88 l D E pl := LandAt.fr (fun j j0 j1 => zF8 (j, l) (by show ¬ (j = 16 ∨ j = 17); omega)) hL
      have zfb : ∀ x : Int, 0 ≤ x → x ≤ 40 → sp1 D kq (spN D kq s a j).1 f g8 41 x = (spN D kq s a (j + 1)).2 x := fun x x0 x1 => by
        show _ = sp1 D kq (spN D kq s a j).1 (spN D kq s a j).2 (fun _ => 0) 41 x
        exact sp1_congr hD zq1 zq2 hkb hf zg8 41 (Nat.le_refl _) x x0 x1
      refine j_aload hc dX10_after_91 rfl ?_
      refine j_get hc dX10_after_93 fX10_240 zp50b rfl ?_
      refine j_iload hc dX10_after_96 rfl ?_
      refine j_callV (d' := d - 1) hc dX10_after_98 vX10_258 hLb.1 (ev_X0_seasonBehind (by omega) hLb hD (by omega) (by omega)) rfl (by omega) (by omega) (by omega) rfl rfl (Nat.le_of_ble_eq_true rfl) (ret1 ?_)
      refine j_istore (L' := [_, _, _, _, _, _, _, _, _, _, _, _]) hc dX10_after_101 (Nat.le_of_ble_eq_true rfl) rfl ?_
      refine j_iinc (L' := [_, _, _, _, _, _, _, _, _, _, _, _]) hc dX10_after_103 rfl (Nat.le_of_ble_eq_true rfl) rfl ?_
      refine j_goto (tgt := 72) hc dX10_after_106 (by decide) ?_
      exact ih _ (by omega) (j + 1) _ _ _ _ rfl (by omega) rfl zfb zb0b hLb zp50b zp51b zS8 (hfr.tr zF8)
set_option maxRecDepth 100000 in
set_option maxHeartbeats 4000000 in
theorem ev_X10_after_a {k : WC} {d : Nat} {h : AH} {S : BaS} {l sr n s a t wh x : Int} (hd : 9 ≤ d) (hB : BarnAt h S) (hil : inI l) (hir : inI sr) (hin : inI n) (his : inI s) (hia : inI a) (hit : inI t) (hiw : inI wh) (hix : inI x) : Ev k d mdX10_after h [vR (0, 0), vI l, vI sr, vI n, vI s, vI a, vI t, vI wh, vI x] 6 3975 (pe fun v h' => v = vL (aAft S l sr n s a t wh x) ∧ BarnAt h' S ∧ Fr isBa h h') := by
  obtain ⟨⟨⟨zb0, zb11, zb12, zb13, zb14, zb141, zb15, zb18⟩, zTp, zRd⟩, zSp, zTw, zSt, zL, zK⟩ := id hB
  obtain ⟨zT1, ⟨zlc0, zlc1⟩, ⟨zrc0, zrc1⟩, zKl, zKr, zKw, ⟨zto0, zto1⟩, zse0, zse1⟩ := id zK
  by_cases hcs : plV S l sr n s a
  · skip
    obtain ⟨hva, hsr0, hsr1⟩ := id hcs
    obtain ⟨hvl, ⟨hn1, hn⟩, ⟨hs0, hs1⟩, ha0, ha1⟩ := id hva
    obtain ⟨hl0, hl1⟩ := id hvl
    obtain ⟨hD, hE, hyr, hyo⟩ := zKl l hl0 hl1
    obtain ⟨pl, hL, hpl⟩ := zL.1 l hl0 hl1
    have hd1 := hD.1
    have hd2 := hD.2.1
    refine Ev.mk (by decide +kernel) [_, _, _, _, _, _, _, _, _, _, _, _] rfl (Nat.le_of_ble_eq_true rfl) (fun w hc he => ?_)
    refine j_aload_n hc dX10_after_0 rfl ?_
    refine j_iload_n hc dX10_after_1 rfl ?_
    refine j_iload_n hc dX10_after_2 rfl ?_
    refine j_iload hc dX10_after_3 rfl ?_
    refine j_iload hc dX10_after_5 rfl ?_
    refine j_callV (d' := d - 1) hc dX10_after_7 vX10_199 zb0 (ev_X10_landFor_ok (by omega) hB hva) rfl (by omega) (by omega) (by omega) rfl rfl (Nat.le_of_ble_eq_true rfl) (ret1 ?_)
    refine j_ifnonnull (tgt := 17) hc dX10_after_10 (by decide) (fun zc1 => ?_) (fun zc1 => ?_)
    · refine j_aload_n hc dX10_after_17 rfl ?_
      refine j_iload_n hc dX10_after_18 rfl ?_
      refine j_iload_n hc dX10_after_19 rfl ?_
      refine j_iload_n hc dX10_after_20 rfl ?_
      refine j_callV (d' := d - 1) hc dX10_after_21 vX10_247 zb0 (ev_X10_planForAllSeasons_ok (by omega) hB (show paV S l sr n from ⟨hvl, ⟨hn1, hn⟩, hsr0, hsr1⟩)) rfl (by omega) (by omega) (by omega) rfl rfl (Nat.le_of_ble_eq_true rfl) (retE fun zv21 zq21 zp21 => ?_)
      obtain ⟨zv8, zPl⟩ := zp21
      subst zv8
      have zB8 := zPl.barn hB hl0 hl1 (by omega) (by omega)
      obtain ⟨pl8, wf8, kf8, bf8, lf8, wl8, zX8, zH8, zn8, zR8, zF8⟩ := id zPl
      have zsrj : srj sr = sr := by unfold srj; rw [if_neg (by omega)]
      have zP8 := zH8.2.2.2.1
      rw [zsrj] at zP8
      have zV8 := zP8.2.2.2.2.2.2
      have zrow : ∀ q b : Int, 0 ≤ q → q < lSe (bD S l) → 0 ≤ b → b ≤ 40 → kf8 (ceS n q + b) = kpA S l sr n q b := fun q b q0 q1 b0 b1 => (PlV.row hD zV8 hn1 q0 q1 (zn8 q q0 q1) b0 b1).1
      obtain ⟨b7, f7, zS7⟩ := zB8.2.1
      have zFb := zF8.mono fun z zz => isLo_ba (isSp_lo (S := S) hsr0 (by omega) zz)
      refine j_astore (L' := [_, _, _, _, _, _, _, _, _, _, _, _]) hc dX10_after_24 (Nat.le_of_ble_eq_true rfl) rfl ?_
      refine j_aload hc dX10_after_26 rfl ?_
      refine j_ifnull (tgt := 52) hc dX10_after_28 (by decide) (fun zc2 => ?_) (fun zc2 => ?_)
      · exact absurd zc2 (by simp)
      · refine j_iload hc dX10_after_31 rfl ?_
        refine j_iconst hc dX10_after_33 ?_
        refine j_bipush hc dX10_after_34 (by decide) ?_
        refine j_callS (d' := d - 1) hc dX10_after_36 sX10_90 (ev_X10_within (by omega) hit ⟨by omega, by omega⟩ ⟨by omega, by omega⟩) rfl (by omega) (by omega) (by omega) rfl rfl (Nat.le_of_ble_eq_true rfl) (ret1 ?_)
        refine j_if_eq (b := 0) (tgt := 52) hc dX10_after_39 (by decide) (by split <;> exact ⟨by omega, by omega⟩) (fun zc3 => ?_) (fun zc3 => ?_)
        · have zw1 : ¬ (0 ≤ t ∧ t ≤ 6) := one_neg zc3
          refine j_ldc2 (x := -1) hc dX10_after_52 kX10_203 (by decide) ?_
          exact j_lret hc he dX10_after_55 rfl (by omega) (by omega) ⟨_, rfl, by unfold aAft; rw [if_neg (fun z => zw1 z.2.1)], zB8, zFb⟩
        · have zw1 : 0 ≤ t ∧ t ≤ 6 := one_pos zc3
          refine j_iload hc dX10_after_42 rfl ?_
          refine j_iconst hc dX10_after_44 ?_
          refine j_iconst hc dX10_after_45 ?_
          refine j_callS (d' := d - 1) hc dX10_after_46 sX10_90 (ev_X10_within (by omega) hiw ⟨by omega, by omega⟩ ⟨by omega, by omega⟩) rfl (by omega) (by omega) (by omega) rfl rfl (Nat.le_of_ble_eq_true rfl) (ret1 ?_)
          refine j_if_ne (b := 0) (tgt := 56) hc dX10_after_49 (by decide) (by split <;> exact ⟨by omega, by omega⟩) (fun zc4 => ?_) (fun zc4 => ?_)
          · have zw2 : 0 ≤ wh ∧ wh ≤ 4 := one_pos zc4
            refine j_iload hc dX10_after_56 rfl ?_
            refine j_istore (L' := [_, _, _, _, _, _, _, _, _, _, _, _]) hc dX10_after_58 (Nat.le_of_ble_eq_true rfl) rfl ?_
            refine j_aload_n hc dX10_after_60 rfl ?_
            refine j_get hc dX10_after_61 fX10_56 zB8.1.1.1 rfl ?_
            refine j_iload hc dX10_after_64 rfl ?_
            refine j_callV (d' := d - 1) hc dX10_after_66 vX10_251 zS7.2.1 (ev_X6_begin (by omega) zS7 ha0 ha1) rfl (by omega) (by omega) (by omega) rfl rfl (Nat.le_of_ble_eq_true rfl) (retN fun zq66 zp66 => ?_)
            obtain ⟨f6, zS6, zf6, zF6⟩ := zp66
            have nx6 : ∀ z : Nm, z.1 ≠ 16 → z.1 ≠ 17 → zq66 z = zq21 z := fun z z0 z1 => zF6 z (by show ¬ (_ = 16 ∨ _ = 17); omega)
            refine j_iconst hc dX10_after_69 ?_
            refine j_istore (L' := [_, _, _, _, _, _, _, _, _, _, _, _]) hc dX10_after_70 (Nat.le_of_ble_eq_true rfl) rfl ?_
            exact lp_X10_after (S := S) (l := l) (kq := fun s a => kpA S l sr n s a) (by omega) hD zrow (kqA zK hl0 hl1 hn1) hn1 hn hs0 hs1 hsr0 hsr1 zw1.1 zw1.2 zw2.1 zw2.2 hix hc (he.mono (fun r h2 zz => by
              obtain ⟨v, zr, zv, zs, zf⟩ := zz
              have nx9 : ∀ z : Nm, z.1 ≠ 16 → z.1 ≠ 17 → h2 z = zq21 z := fun z z0 z1 => (zf z (by show ¬ (_ = 16 ∨ _ = 17); omega)).trans (nx6 z z0 z1)
              obtain ⟨y1, y2, y3, y4, y5, y6⟩ := zB8
              refine ⟨v, zr, by rw [zv]; unfold aAft; rw [if_pos ⟨hcs, zw1, zw2⟩]; rfl, ⟨y1.fr fun z z0 => nx9 z (by omega) (by omega), zs, y3.fr fun z z0 => nx9 z (by omega) (by omega), y4.fr fun z z0 => nx9 z (by omega) (by omega), y5.fr fun z z0 => nx9 z (by omega) (by omega), y6⟩, fun z z0 => ?_⟩
              have z0 : ¬ z.1 < 70 := z0
              exact (nx9 z (by omega) (by omega)).trans (zFb z z0))) _ 0 _ _ _ _ rfl (by omega) rfl zf6 ((nx6 _ (by decide) (by decide)).trans zB8.1.1.1) (LandAt.fr (fun j j0 j1 => nx6 (j, l) (by show j ≠ 16; omega) (by show j ≠ 17; omega)) zX8.1) ((nx6 _ (by simp) (by simp)).trans zP8.1) ((nx6 _ (by simp) (by simp)).trans zP8.2.1) zS6 (Fr.rf _ _)
          · have zw2 : ¬ (0 ≤ wh ∧ wh ≤ 4) := one_neg zc4
            refine j_ldc2 (x := -1) hc dX10_after_52 kX10_203 (by decide) ?_
            exact j_lret hc he dX10_after_55 rfl (by omega) (by omega) ⟨_, rfl, by unfold aAft; rw [if_neg (fun z => zw2 z.2.2)], zB8, zFb⟩
    · exact absurd zc1 (by simp)
  by_cases hlv : laV S l n s a
  · skip
    refine Ev.mk (by decide +kernel) [_, _, _, _, _, _, _, _, _, _, _, _] rfl (Nat.le_of_ble_eq_true rfl) (fun w hc he => ?_)
    refine j_aload_n hc dX10_after_0 rfl ?_
    refine j_iload_n hc dX10_after_1 rfl ?_
    refine j_iload_n hc dX10_after_2 rfl ?_
    refine j_iload hc dX10_after_3 rfl ?_
    refine j_iload hc dX10_after_5 rfl ?_
    refine j_callV (d' := d - 1) hc dX10_after_7 vX10_199 zb0 (ev_X10_landFor_ok (by omega) hB hlv) rfl (by omega) (by omega) (by omega) rfl rfl (Nat.le_of_ble_eq_true rfl) (ret1 ?_)
    refine j_ifnonnull (tgt := 17) hc dX10_after_10 (by decide) (fun zc1 => ?_) (fun zc1 => ?_)
    · refine j_aload_n hc dX10_after_17 rfl ?_
      refine j_iload_n hc dX10_after_18 rfl ?_
      refine j_iload_n hc dX10_after_19 rfl ?_
      refine j_iload_n hc dX10_after_20 rfl ?_
      refine j_callV (d' := d - 1) hc dX10_after_21 vX10_247 zb0 (ev_X10_planForAllSeasons_no (by omega) hB hil hir hin (fun z => hcs ⟨hlv, z.2.2⟩)) rfl (by omega) (by omega) (by omega) rfl rfl (Nat.le_of_ble_eq_true rfl) (ret1 ?_)
      refine j_astore (L' := [_, _, _, _, _, _, _, _, _, _, _, _]) hc dX10_after_24 (Nat.le_of_ble_eq_true rfl) rfl ?_
      refine j_aload hc dX10_after_26 rfl ?_
      refine j_ifnull (tgt := 52) hc dX10_after_28 (by decide) (fun zc2 => ?_) (fun zc2 => ?_)
      · refine j_ldc2 (x := -1) hc dX10_after_52 kX10_203 (by decide) ?_
        exact j_lret hc he dX10_after_55 rfl (by omega) (by omega) ⟨_, rfl, by unfold aAft; rw [if_neg (fun z => hcs z.1)], hB, Fr.rf _ _⟩
      · exact absurd rfl zc2
    · exact absurd zc1 (by simp)
  refine Ev.mk (by decide +kernel) [_, _, _, _, _, _, _, _, _, _, _, _] rfl (Nat.le_of_ble_eq_true rfl) (fun w hc he => ?_)
  refine j_aload_n hc dX10_after_0 rfl ?_
  refine j_iload_n hc dX10_after_1 rfl ?_
  refine j_iload_n hc dX10_after_2 rfl ?_
  refine j_iload hc dX10_after_3 rfl ?_
  refine j_iload hc dX10_after_5 rfl ?_
  refine j_callV (d' := d - 1) hc dX10_after_7 vX10_199 zb0 (ev_X10_landFor_no (by omega) hB hil hin his hia hlv) rfl (by omega) (by omega) (by omega) rfl rfl (Nat.le_of_ble_eq_true rfl) (ret1 ?_)
  refine j_ifnonnull (tgt := 17) hc dX10_after_10 (by decide) (fun zc1 => ?_) (fun zc1 => ?_)
  · exact absurd rfl zc1
  · refine j_null hc dX10_after_13 ?_
    refine j_goto (tgt := 24) hc dX10_after_14 (by decide) ?_
    refine j_astore (L' := [_, _, _, _, _, _, _, _, _, _, _, _]) hc dX10_after_24 (Nat.le_of_ble_eq_true rfl) rfl ?_
    refine j_aload hc dX10_after_26 rfl ?_
    refine j_ifnull (tgt := 52) hc dX10_after_28 (by decide) (fun zc2 => ?_) (fun zc2 => ?_)
    · refine j_ldc2 (x := -1) hc dX10_after_52 kX10_203 (by decide) ?_
      exact j_lret hc he dX10_after_55 rfl (by omega) (by omega) ⟨_, rfl, by unfold aAft; rw [if_neg (fun z => hcs z.1)], hB, Fr.rf _ _⟩
    · exact absurd rfl zc2
