/-! ===== the barn's answers, those with loops ===== -/
theorem nSp {S : BaS} {l sr : Int} {q : Nat} {j : Int} (h0 : 50 ≤ q) (h1 : q ≤ 56) (h2 : j ≠ 6 * l + sr) : ¬ isSp S l sr (q, j) := fun y => by
  rcases y with y | y
  · rcases y with y | y
    · injection y with y1 y2; omega
    · exact h2 y.2.2
  · have := isOwn_lo y; simp at this; omega
theorem ntS_congr {D : LaS} {E : LaY} (hD : LOK D) (hE : YOK E) {cs : Int} {gf gf' bf bf' : Int → Int} {n s a : Int} (hs : 0 ≤ s) (ha0 : 0 ≤ a) (ha : a ≤ 40) (hg : ∀ b : Int, 0 ≤ b → b ≤ 40 → gf b = gf' b) (hb : ∀ b : Int, 0 ≤ b → b ≤ 40 → bf (ceS (n - 1) (nxS D s) + b) = bf' (ceS (n - 1) (nxS D s) + b)) : ntS D E cs gf bf n s a = ntS D E cs gf' bf' n s a := by
  have zn := nxS_b hD hs
  have zm := moS_b hD hE
  unfold ntS
  refine suF_congr _ fun j hj => ?_
  congr 2
  refine mxN_congr _ fun k hk => ?_
  have zl := leS_b hD (k := k) (by omega)
  have zs := lSk_in hD zn.1 zn.2 hj
  unfold ntV
  rw [hg (a - k) (by omega) (by omega), show ceS (n - 1) (nxS D s) + leS D k + lSk D (nxS D s * 4 + j) = ceS (n - 1) (nxS D s) + (leS D k + lSk D (nxS D s * 4 + j)) by omega, hb _ (by omega) (by omega)]
theorem bpS_b {D : LaS} {E : LaY} (hD : LOK D) (hE : YOK E) {sr n s a : Int} (hn1 : 1 ≤ n) (hn : n ≤ 12) (hs0 : 0 ≤ s) (hs1 : s < lSe D) (ha0 : 0 ≤ a) (ha1 : a ≤ 40) : 0 ≤ bpS D E (lCo D) sr n s a ∧ bpS D E (lCo D) sr n s a ≤ 158884909987921920 := by
  have h1 := bvN_b hD hE (cs := lCo D) hD.2.2.1 hD.2.2.2.1 (fun b b0 b1 => gaS_b hD (sr := sr) b b0 b1) (n - 1).toNat (s := s) (a := a) (by omega) hs0 hs1 ha0 ha1
  have h2 := bbS_b hD (n := n) (s := s) hn1 hn hs0
  rw [show (((n - 1).toNat : Int) + 1) = n by omega] at h1
  unfold bpS
  omega
set_option maxRecDepth 100000 in
set_option maxHeartbeats 4000000 in
theorem lp_X10_unlike {k : WC} {d : Nat} {w : MC} {h : AH} {l : Int} {D : LaS} {E : LaY} {pl : Int → Option Nm} {i i2 sr sr2 cs cs2 : Int} {wf wf2 : Option Nm} {gn gn2 : Nm} {kf kf2 : Int → Int} {k1 k2 : Int → Int} {n s : Int} {Po : Option AV → AH → Prop} (hd : 4 ≤ d) (hL : LandAt h l D E pl) (hD : LOK D) (zp50 : h (50, i) = some (oO 2 (pF i l sr cs wf gn))) (zp51 : h (51, i) = some (oI ((lSe D).toNat * 492) kf)) (zq50 : h (50, i2) = some (oO 2 (pF i2 l sr2 cs2 wf2 gn2))) (zq51 : h (51, i2) = some (oI ((lSe D).toNat * 492) kf2)) (hk1 : ∀ b : Int, 0 ≤ b → b ≤ 40 → kf (ceS n s + b) = k1 b) (hk2 : ∀ b : Int, 0 ≤ b → b ≤ 40 → kf2 (ceS n s + b) = k2 b) (hb1 : ∀ b : Int, 0 ≤ b → b ≤ 40 → 0 ≤ k1 b ∧ k1 b ≤ 20) (hb2 : ∀ b : Int, 0 ≤ b → b ≤ 40 → 0 ≤ k2 b ∧ k2 b ≤ 20) (hn1 : 1 ≤ n) (hn : n ≤ 12) (hs0 : 0 ≤ s) (hs1 : s < lSe D) (hpo : Po (some (vI (fsi (fun a : Nat => decide (k1 a ≠ k2 a)) 41 0))) h) (hc : Cx w k d 12 7950 mdX10_unlike) (he : Ends w 12 7950 (Po)) : ∀ (zm : Nat) (a : Nat), 41 - a = zm → a ≤ 41 → (∀ j : Nat, j < a → k1 j = k2 j) → J w 12 7950 37 [some (vR (0, 0)), some (vI l), some (vI n), some (vI s), some (vR (50, i)), some (vR (50, i2)), some (vI a)] [] h := by
  intro zm
  induction zm using Nat.strongRecOn with
  | _ zm ih =>
    intro a hm ha hj
    refine j_iload hc dX10_unlike_37 rfl ?_
    refine j_bipush hc dX10_unlike_39 (by decide) ?_
    refine j_icmp_gt (tgt := 74) hc dX10_unlike_41 (by decide) ⟨by omega, by omega⟩ ⟨by omega, by omega⟩ (fun zc1 => ?_) (fun zc1 => ?_)
    · refine j_iconst hc dX10_unlike_74 ?_
      exact j_iret hc he dX10_unlike_75 rfl (by omega) (by omega) (by rw [fsi_no (fun i _ hi => by simp [hj i (by omega)])] at hpo; exact hpo)
    · have za1 := hb1 a (by omega) (by omega)
      have za2 := hb2 a (by omega) (by omega)
      refine j_aload hc dX10_unlike_44 rfl ?_
      refine j_iload_n hc dX10_unlike_46 rfl ?_
      refine j_iload_n hc dX10_unlike_47 rfl ?_
      refine j_iload hc dX10_unlike_48 rfl ?_
      refine j_callV (d' := d - 1) hc dX10_unlike_50 vX10_187 zp50 (ev_X2_keptAt (by omega) hL hD zp50 zp51 hn1 hn hs0 hs1 (by omega) (by omega)) rfl (by omega) (by omega) (by omega) rfl rfl (Nat.le_of_ble_eq_true rfl) (ret1 ?_)
      rw [hk1 a (by omega) (by omega)]
      refine j_aload hc dX10_unlike_53 rfl ?_
      refine j_iload_n hc dX10_unlike_55 rfl ?_
      refine j_iload_n hc dX10_unlike_56 rfl ?_
      refine j_iload hc dX10_unlike_57 rfl ?_
      refine j_callV (d' := d - 1) hc dX10_unlike_59 vX10_187 zq50 (ev_X2_keptAt (by omega) hL hD zq50 zq51 hn1 hn hs0 hs1 (by omega) (by omega)) rfl (by omega) (by omega) (by omega) rfl rfl (Nat.le_of_ble_eq_true rfl) (ret1 ?_)
      rw [hk2 a (by omega) (by omega)]
      refine j_icmp_eq (tgt := 68) hc dX10_unlike_62 (by decide) ⟨by omega, by omega⟩ ⟨by omega, by omega⟩ (fun zc2 => ?_) (fun zc2 => ?_)
      · refine j_iinc (L' := [_, _, _, _, _, _, _]) hc dX10_unlike_68 rfl (Nat.le_of_ble_eq_true rfl) rfl ?_
        refine j_goto (tgt := 37) hc dX10_unlike_71 (by decide) ?_
        exact ih _ (by omega) (a + 1) rfl (by omega) (fun j hj2 => by by_cases e : j = a; (· rw [e]; assumption); exact hj j (by omega))
      · refine j_iload hc dX10_unlike_65 rfl ?_
        exact j_iret hc he dX10_unlike_67 rfl (by omega) (by omega) (by rw [fsi_at (j := a) (by omega) (by omega) (fun i _ hi => by simp [hj i hi]) (by simpa using by assumption)] at hpo; exact hpo)
set_option maxRecDepth 100000 in
set_option maxHeartbeats 4000000 in
theorem ev_X10_unlike_a {k : WC} {d : Nat} {h : AH} {S : BaS} {l n s : Int} (hd : 8 ≤ d) (hB : BarnAt h S) (hil : inI l) (hin : inI n) (his : inI s) : Ev k d mdX10_unlike h [vR (0, 0), vI l, vI n, vI s] 12 7950 (pe fun v h' => v = vI (aUnl S l n s) ∧ BarnAt h' S ∧ Fr isBa h h') := by
  obtain ⟨⟨⟨zb0, zb11, zb12, zb13, zb14, zb141, zb15, zb18⟩, zTp, zRd⟩, zSp, zTw, zSt, zL, zK⟩ := id hB
  obtain ⟨zT1, ⟨zlc0, zlc1⟩, ⟨zrc0, zrc1⟩, zKl, zKr, zKw, ⟨zto0, zto1⟩, zse0, zse1⟩ := id zK
  by_cases hcs : laV S l n s 0
  · skip
    obtain ⟨hvl, ⟨hn1, hn⟩, ⟨hs0, hs1⟩, ha0, ha1⟩ := id hcs
    obtain ⟨hl0, hl1⟩ := id hvl
    obtain ⟨hD, hE, hyr, hyo⟩ := zKl l hl0 hl1
    obtain ⟨pl, hL, hpl⟩ := zL.1 l hl0 hl1
    have hd1 := hD.1
    have hd2 := hD.2.1
    refine Ev.mk (by decide +kernel) [_, _, _, _, _, _, _] rfl (Nat.le_of_ble_eq_true rfl) (fun w hc he => ?_)
    refine j_aload_n hc dX10_unlike_0 rfl ?_
    refine j_iload_n hc dX10_unlike_1 rfl ?_
    refine j_iconst hc dX10_unlike_2 ?_
    refine j_iload_n hc dX10_unlike_3 rfl ?_
    refine j_iload_n hc dX10_unlike_4 rfl ?_
    refine j_iconst hc dX10_unlike_5 ?_
    refine j_callV (d' := d - 1) hc dX10_unlike_6 vX10_183 zb0 (ev_X10_planAt_ok (by omega) hB (show plV S l 1 n s 0 from ⟨hcs, by omega, by omega⟩)) rfl (by omega) (by omega) (by omega) rfl rfl (Nat.le_of_ble_eq_true rfl) (retE fun zv6 zq6 zp6 => ?_)
    obtain ⟨zv8, zPl8⟩ := zp6
    subst zv8
    have zB8 := zPl8.barn hB hl0 hl1 (by omega) (by omega)
    obtain ⟨pl8, wf8, kf8, bf8, lf8, wl8, zX8, zH8, zn8, zR8, zF8⟩ := id zPl8
    have zsrj8 : srj (1) = 1 := by unfold srj; rw [if_neg (by omega)]
    have zP8 := zH8.2.2.2.1
    rw [zsrj8] at zP8
    have zV8 := zP8.2.2.2.2.2.2
    have zrow8 : ∀ b : Int, 0 ≤ b → b ≤ 40 → kf8 (ceS n s + b) = kpA S l (1) n s b ∧ ((1 : Int) = 2 ∨ (1 : Int) = 3 → bf8 (ceS n s + b) = bpA S l (1) n s b) := fun b b0 b1 => PlV.row hD zV8 hn1 hs0 hs1 zn8 b0 b1
    refine j_astore (L' := [_, _, _, _, _, _, _]) hc dX10_unlike_9 (Nat.le_of_ble_eq_true rfl) rfl ?_
    refine j_aload_n hc dX10_unlike_11 rfl ?_
    refine j_iload_n hc dX10_unlike_12 rfl ?_
    refine j_iconst hc dX10_unlike_13 ?_
    refine j_iload_n hc dX10_unlike_14 rfl ?_
    refine j_iload_n hc dX10_unlike_15 rfl ?_
    refine j_iconst hc dX10_unlike_16 ?_
    refine j_callV (d' := d - 1) hc dX10_unlike_17 vX10_183 zB8.1.1.1 (ev_X10_planAt_ok (by omega) zB8 (show plV S l 2 n s 0 from ⟨hcs, by omega, by omega⟩)) rfl (by omega) (by omega) (by omega) rfl rfl (Nat.le_of_ble_eq_true rfl) (retE fun zv17 zq17 zp17 => ?_)
    obtain ⟨zv9, zPl9⟩ := zp17
    subst zv9
    have zB9 := zPl9.barn zB8 hl0 hl1 (by omega) (by omega)
    obtain ⟨pl9, wf9, kf9, bf9, lf9, wl9, zX9, zH9, zn9, zR9, zF9⟩ := id zPl9
    have zsrj9 : srj (2) = 2 := by unfold srj; rw [if_neg (by omega)]
    have zP9 := zH9.2.2.2.1
    rw [zsrj9] at zP9
    have zV9 := zP9.2.2.2.2.2.2
    have zrow9 : ∀ b : Int, 0 ≤ b → b ≤ 40 → kf9 (ceS n s + b) = kpA S l (2) n s b ∧ ((2 : Int) = 2 ∨ (2 : Int) = 3 → bf9 (ceS n s + b) = bpA S l (2) n s b) := fun b b0 b1 => PlV.row hD zV9 hn1 hs0 hs1 zn9 b0 b1
    refine j_astore (L' := [_, _, _, _, _, _, _]) hc dX10_unlike_20 (Nat.le_of_ble_eq_true rfl) rfl ?_
    refine j_aload hc dX10_unlike_22 rfl ?_
    refine j_ifnull (tgt := 32) hc dX10_unlike_24 (by decide) (fun zc1 => ?_) (fun zc1 => ?_)
    · exact absurd zc1 (by simp)
    · refine j_aload hc dX10_unlike_27 rfl ?_
      refine j_ifnonnull (tgt := 34) hc dX10_unlike_29 (by decide) (fun zc2 => ?_) (fun zc2 => ?_)
      · refine j_iconst hc dX10_unlike_34 ?_
        refine j_istore (L' := [_, _, _, _, _, _, _]) hc dX10_unlike_35 (Nat.le_of_ble_eq_true rfl) rfl ?_
        have zg50 := (zF9 (50, 6 * l + 1) (nSp (by omega) (by omega) (by omega))).trans zP8.1
        have zg51 := (zF9 (51, 6 * l + 1) (nSp (by omega) (by omega) (by omega))).trans zP8.2.1
        exact lp_X10_unlike (k1 := kpA S l 1 n s) (k2 := kpA S l 2 n s) (by omega) zX9.1 hD zg50 zg51 zP9.1 zP9.2.1 (fun b b0 b1 => (zrow8 b b0 b1).1) (fun b b0 b1 => (zrow9 b b0 b1).1) (fun b b0 b1 => kpA_b zK hl0 hl1 b0) (fun b b0 b1 => kpA_b zK hl0 hl1 b0) hn1 hn hs0 hs1 ⟨_, rfl, by unfold aUnl; rw [if_pos hcs], zB9, ((zF8.mono fun z zz => isSp_lo (S := S) (by omega) (by omega) zz).tr (zF9.mono fun z zz => isSp_lo (S := S) (by omega) (by omega) zz)).mono fun z zz => isLo_ba zz⟩ hc he _ 0 rfl (by omega) (fun j hj => by omega)
      · exact absurd zc2 (by simp)
  · skip
    refine Ev.mk (by decide +kernel) [_, _, _, _, _, _, _] rfl (Nat.le_of_ble_eq_true rfl) (fun w hc he => ?_)
    refine j_aload_n hc dX10_unlike_0 rfl ?_
    refine j_iload_n hc dX10_unlike_1 rfl ?_
    refine j_iconst hc dX10_unlike_2 ?_
    refine j_iload_n hc dX10_unlike_3 rfl ?_
    refine j_iload_n hc dX10_unlike_4 rfl ?_
    refine j_iconst hc dX10_unlike_5 ?_
    refine j_callV (d' := d - 1) hc dX10_unlike_6 vX10_183 zb0 (ev_X10_planAt_no (by omega) hB hil ⟨by omega, by omega⟩ hin his ⟨by omega, by omega⟩ (fun z => hcs z.1)) rfl (by omega) (by omega) (by omega) rfl rfl (Nat.le_of_ble_eq_true rfl) (ret1 ?_)
    refine j_astore (L' := [_, _, _, _, _, _, _]) hc dX10_unlike_9 (Nat.le_of_ble_eq_true rfl) rfl ?_
    refine j_aload_n hc dX10_unlike_11 rfl ?_
    refine j_iload_n hc dX10_unlike_12 rfl ?_
    refine j_iconst hc dX10_unlike_13 ?_
    refine j_iload_n hc dX10_unlike_14 rfl ?_
    refine j_iload_n hc dX10_unlike_15 rfl ?_
    refine j_iconst hc dX10_unlike_16 ?_
    refine j_callV (d' := d - 1) hc dX10_unlike_17 vX10_183 zb0 (ev_X10_planAt_no (by omega) hB hil ⟨by omega, by omega⟩ hin his ⟨by omega, by omega⟩ (fun z => hcs z.1)) rfl (by omega) (by omega) (by omega) rfl rfl (Nat.le_of_ble_eq_true rfl) (ret1 ?_)
    refine j_astore (L' := [_, _, _, _, _, _, _]) hc dX10_unlike_20 (Nat.le_of_ble_eq_true rfl) rfl ?_
    refine j_aload hc dX10_unlike_22 rfl ?_
    refine j_ifnull (tgt := 32) hc dX10_unlike_24 (by decide) (fun zc1 => ?_) (fun zc1 => ?_)
    · refine j_iconst hc dX10_unlike_32 ?_
      exact j_iret hc he dX10_unlike_33 rfl (by omega) (by omega) ⟨_, rfl, by unfold aUnl; rw [if_neg hcs], hB, Fr.rf _ _⟩
    · exact absurd rfl zc1
set_option maxRecDepth 100000 in
set_option maxHeartbeats 4000000 in
theorem lp_X10_judge {k : WC} {d : Nat} {w : MC} {h : AH} {l : Int} {D : LaS} {E : LaY} {pl : Int → Option Nm} {i sr cs : Int} {wf : Option Nm} {gn : Nm} {kf k1 : Int → Int} {n s : Int} {Po : Option AV → AH → Prop} (hd : 4 ≤ d) (hL : LandAt h l D E pl) (hD : LOK D) (hE : YOK E) (zp50 : h (50, i) = some (oO 2 (pF i l sr cs wf gn))) (zp51 : h (51, i) = some (oI ((lSe D).toNat * 492) kf)) (hk1 : ∀ b : Int, 0 ≤ b → b ≤ 40 → kf (ceS n s + b) = k1 b) (hb1 : ∀ b : Int, 0 ≤ b → b ≤ 40 → 0 ≤ k1 b ∧ k1 b ≤ 20) (hn1 : 1 ≤ n) (hn : n ≤ 12) (hs0 : 0 ≤ s) (hs1 : s < lSe D) (hpo : Po (some (vI (fsi (fun a : Nat => decide (k1 a ≠ yTab E (s * 41 + a))) 41 0))) h) (hc : Cx w k d 6 3975 mdX10_judge) (he : Ends w 6 3975 (Po)) : ∀ (zm : Nat) (a : Nat), 41 - a = zm → a ≤ 41 → (∀ j : Nat, j < a → k1 j = yTab E (s * 41 + j)) → J w 6 3975 21 [some (vR (0, 0)), some (vI l), some (vI n), some (vI s), some (vR (50, i)), some (vI a)] [] h := by
  intro zm
  induction zm using Nat.strongRecOn with
  | _ zm ih =>
    intro a hm ha hj
    have hd2 := hD.2.1
    refine j_iload hc dX10_judge_21 rfl ?_
    refine j_bipush hc dX10_judge_23 (by decide) ?_
    refine j_icmp_gt (tgt := 65) hc dX10_judge_25 (by decide) ⟨by omega, by omega⟩ ⟨by omega, by omega⟩ (fun zc1 => ?_) (fun zc1 => ?_)
    · refine j_iconst hc dX10_judge_65 ?_
      exact j_iret hc he dX10_judge_66 rfl (by omega) (by omega) (by rw [fsi_no (fun i _ hi => by simp [hj i (by omega)])] at hpo; exact hpo)
    · have za1 := hb1 a (by omega) (by omega)
      have za2 := hE.2.2.2.2.2.2.2.2.2 (s * 41 + a) (by omega) (by omega)
      refine j_aload hc dX10_judge_28 rfl ?_
      refine j_iload_n hc dX10_judge_30 rfl ?_
      refine j_iload_n hc dX10_judge_31 rfl ?_
      refine j_iload hc dX10_judge_32 rfl ?_
      refine j_callV (d' := d - 1) hc dX10_judge_34 vX10_187 zp50 (ev_X2_keptAt (by omega) hL hD zp50 zp51 hn1 hn hs0 hs1 (by omega) (by omega)) rfl (by omega) (by omega) (by omega) rfl rfl (Nat.le_of_ble_eq_true rfl) (ret1 ?_)
      rw [hk1 a (by omega) (by omega)]
      refine j_aload hc dX10_judge_37 rfl ?_
      refine j_get hc dX10_judge_39 fX10_240 zp50 rfl ?_
      refine j_get hc dX10_judge_42 fX10_237 hL.1 rfl ?_
      refine j_iload_n hc dX10_judge_45 rfl ?_
      refine j_bipush hc dX10_judge_46 (by decide) ?_
      refine j_imul hc dX10_judge_48 ?_
      refine j_iload hc dX10_judge_49 rfl ?_
      refine j_iadd hc dX10_judge_51 ?_
      refine j_iald hc dX10_judge_52 hL.2.2.2.2.2.2.1 (by omega) (by omega) ?_
      refine j_icmp_eq (tgt := 59) hc dX10_judge_53 (by decide) ⟨by omega, by omega⟩ ⟨by omega, by omega⟩ (fun zc2 => ?_) (fun zc2 => ?_)
      · refine j_iinc (L' := [_, _, _, _, _, _]) hc dX10_judge_59 rfl (Nat.le_of_ble_eq_true rfl) rfl ?_
        refine j_goto (tgt := 21) hc dX10_judge_62 (by decide) ?_
        exact ih _ (by omega) (a + 1) rfl (by omega) (fun j hj2 => by by_cases e : j = a; (· rw [e]; assumption); exact hj j (by omega))
      · refine j_iload hc dX10_judge_56 rfl ?_
        exact j_iret hc he dX10_judge_58 rfl (by omega) (by omega) (by rw [fsi_at (j := a) (by omega) (by omega) (fun i _ hi => by simp [hj i hi]) (by simpa using by assumption)] at hpo; exact hpo)
set_option maxRecDepth 100000 in
set_option maxHeartbeats 4000000 in
theorem ev_X10_judge_a {k : WC} {d : Nat} {h : AH} {S : BaS} {l n s : Int} (hd : 8 ≤ d) (hB : BarnAt h S) (hil : inI l) (hin : inI n) (his : inI s) : Ev k d mdX10_judge h [vR (0, 0), vI l, vI n, vI s] 6 3975 (pe fun v h' => v = vI (aJudge S l n s) ∧ BarnAt h' S ∧ Fr isBa h h') := by
  obtain ⟨⟨⟨zb0, zb11, zb12, zb13, zb14, zb141, zb15, zb18⟩, zTp, zRd⟩, zSp, zTw, zSt, zL, zK⟩ := id hB
  obtain ⟨zT1, ⟨zlc0, zlc1⟩, ⟨zrc0, zrc1⟩, zKl, zKr, zKw, ⟨zto0, zto1⟩, zse0, zse1⟩ := id zK
  by_cases hcs : laV S l n s 0
  · skip
    obtain ⟨hvl, ⟨hn1, hn⟩, ⟨hs0, hs1⟩, ha0, ha1⟩ := id hcs
    obtain ⟨hl0, hl1⟩ := id hvl
    obtain ⟨hD, hE, hyr, hyo⟩ := zKl l hl0 hl1
    obtain ⟨pl, hL, hpl⟩ := zL.1 l hl0 hl1
    have hd1 := hD.1
    have hd2 := hD.2.1
    refine Ev.mk (by decide +kernel) [_, _, _, _, _, _] rfl (Nat.le_of_ble_eq_true rfl) (fun w hc he => ?_)
    refine j_aload_n hc dX10_judge_0 rfl ?_
    refine j_iload_n hc dX10_judge_1 rfl ?_
    refine j_iconst hc dX10_judge_2 ?_
    refine j_iload_n hc dX10_judge_3 rfl ?_
    refine j_iload_n hc dX10_judge_4 rfl ?_
    refine j_iconst hc dX10_judge_5 ?_
    refine j_callV (d' := d - 1) hc dX10_judge_6 vX10_183 zb0 (ev_X10_planAt_ok (by omega) hB (show plV S l 1 n s 0 from ⟨hcs, by omega, by omega⟩)) rfl (by omega) (by omega) (by omega) rfl rfl (Nat.le_of_ble_eq_true rfl) (retE fun zv6 zq6 zp6 => ?_)
    obtain ⟨zv8, zPl8⟩ := zp6
    subst zv8
    have zB8 := zPl8.barn hB hl0 hl1 (by omega) (by omega)
    obtain ⟨pl8, wf8, kf8, bf8, lf8, wl8, zX8, zH8, zn8, zR8, zF8⟩ := id zPl8
    have zsrj8 : srj (1) = 1 := by unfold srj; rw [if_neg (by omega)]
    have zP8 := zH8.2.2.2.1
    rw [zsrj8] at zP8
    have zV8 := zP8.2.2.2.2.2.2
    have zrow8 : ∀ b : Int, 0 ≤ b → b ≤ 40 → kf8 (ceS n s + b) = kpA S l (1) n s b ∧ ((1 : Int) = 2 ∨ (1 : Int) = 3 → bf8 (ceS n s + b) = bpA S l (1) n s b) := fun b b0 b1 => PlV.row hD zV8 hn1 hs0 hs1 zn8 b0 b1
    refine j_astore (L' := [_, _, _, _, _, _]) hc dX10_judge_9 (Nat.le_of_ble_eq_true rfl) rfl ?_
    refine j_aload hc dX10_judge_11 rfl ?_
    refine j_ifnonnull (tgt := 18) hc dX10_judge_13 (by decide) (fun zc1 => ?_) (fun zc1 => ?_)
    · refine j_iconst hc dX10_judge_18 ?_
      refine j_istore (L' := [_, _, _, _, _, _]) hc dX10_judge_19 (Nat.le_of_ble_eq_true rfl) rfl ?_
      exact lp_X10_judge (k1 := kpA S l 1 n s) (by omega) zX8.1 hD hE zP8.1 zP8.2.1 (fun b b0 b1 => (zrow8 b b0 b1).1) (fun b b0 b1 => kpA_b zK hl0 hl1 b0) hn1 hn hs0 hs1 ⟨_, rfl, by unfold aJudge; rw [if_pos hcs], zB8, zF8.mono fun z zz => isLo_ba (isSp_lo (S := S) (by omega) (by omega) zz)⟩ hc he _ 0 rfl (by omega) (fun j hj => by omega)
    · exact absurd zc1 (by simp)
  · skip
    refine Ev.mk (by decide +kernel) [_, _, _, _, _, _] rfl (Nat.le_of_ble_eq_true rfl) (fun w hc he => ?_)
    refine j_aload_n hc dX10_judge_0 rfl ?_
    refine j_iload_n hc dX10_judge_1 rfl ?_
    refine j_iconst hc dX10_judge_2 ?_
    refine j_iload_n hc dX10_judge_3 rfl ?_
    refine j_iload_n hc dX10_judge_4 rfl ?_
    refine j_iconst hc dX10_judge_5 ?_
    refine j_callV (d' := d - 1) hc dX10_judge_6 vX10_183 zb0 (ev_X10_planAt_no (by omega) hB hil ⟨by omega, by omega⟩ hin his ⟨by omega, by omega⟩ (fun z => hcs z.1)) rfl (by omega) (by omega) (by omega) rfl rfl (Nat.le_of_ble_eq_true rfl) (ret1 ?_)
    refine j_astore (L' := [_, _, _, _, _, _]) hc dX10_judge_9 (Nat.le_of_ble_eq_true rfl) rfl ?_
    refine j_aload hc dX10_judge_11 rfl ?_
    refine j_ifnonnull (tgt := 18) hc dX10_judge_13 (by decide) (fun zc1 => ?_) (fun zc1 => ?_)
    · exact absurd rfl zc1
    · refine j_iconst hc dX10_judge_16 ?_
      exact j_iret hc he dX10_judge_17 rfl (by omega) (by omega) ⟨_, rfl, by unfold aJudge; rw [if_neg hcs], hB, Fr.rf _ _⟩
def PlY (S : BaS) (l sr : Int) (h h' : AH) : Prop := ∃ (pl' : Int → Option Nm) (wf : Option Nm) (kf bf lf wl : Int → Int), LandX h' l (bD S l) (bE S l) (ruC S l) sr pl' ∧ PlnHas h' l (bD S l) (bE S l) (ruC S l) sr (lCo (bD S l)) wf kf bf lf wl ∧ RuOK h' (bE S l) (ruC S l) ∧ Fr (isSp S l sr) h h'
theorem PlY.barn {S : BaS} {l sr : Int} {h h' : AH} (r : PlY S l sr h h') (a : BarnAt h S) (l0 : 0 ≤ l) (l1 : l < bLc S) (h0 : 0 ≤ sr) (h9 : sr ≤ 5) : BarnAt h' S := by
  obtain ⟨pl', wf, kf, bf, lf, wl, h1, h2, h4, h5⟩ := r
  exact a.plan l0 l1 (h5.mono fun z zz => isSp_lo h0 h9 zz) (h1.join h2) h4
set_option maxRecDepth 100000 in
set_option maxHeartbeats 4000000 in
theorem lp_X10_ever {k : WC} {d : Nat} {w : MC} {h : AH} {S : BaS} {l sr : Int} {Po : Option AV → AH → Prop} (hd : 8 ≤ d) (hD : LOK (bD S l)) (hE : YOK (bE S l)) (hsr0 : 0 ≤ sr) (hsr1 : sr ≤ 4) (hpo : ∀ h2, PlY S l sr h h2 → Po (some (vI (fsi (fun n : Nat => @decide (alS (bD S l) (bE S l) (ruC S l) (lCo (bD S l)) sr n) (Classical.propDecidable _)) 10 2))) h2) (hc : Cx w k d 6 3975 mdX10_ever) (he : Ends w 6 3975 (Po)) : ∀ (zm : Nat) (n : Nat) (h' : AH), 12 - n = zm → 2 ≤ n → n ≤ 12 → (∀ j : Nat, 2 ≤ j → j < n → ¬ alS (bD S l) (bE S l) (ruC S l) (lCo (bD S l)) sr j) → PlY S l sr h h' → J w 6 3975 19 [some (vR (0, 0)), some (vI l), some (vI sr), some (vR (50, 6 * l + sr)), some (vI n)] [] h' := by
  intro zm
  induction zm using Nat.strongRecOn with
  | _ zm ih =>
    intro n h' hm hn2 hn hj hY
    obtain ⟨pl8, wf8, kf8, bf8, lf8, wl8, zX8, zH8, zR8, zF8⟩ := id hY
    have zsrj : srj sr = sr := by unfold srj; rw [if_neg (by omega)]
    have zP8 := zH8.2.2.2.1
    rw [zsrj] at zP8
    refine j_iload hc dX10_ever_19 rfl ?_
    refine j_bipush hc dX10_ever_21 (by decide) ?_
    refine j_icmp_ge (tgt := 44) hc dX10_ever_23 (by decide) ⟨by omega, by omega⟩ ⟨by omega, by omega⟩ (fun zc1 => ?_) (fun zc1 => ?_)
    · refine j_iconst hc dX10_ever_44 ?_
      exact j_iret hc he dX10_ever_45 rfl (by omega) (by omega) (by have hq := hpo _ hY; rw [fsi_no (fun i i0 hi => by simpa using hj i i0 (by omega))] at hq; exact hq)
    · refine j_aload_n hc dX10_ever_26 rfl ?_
      refine j_iload hc dX10_ever_27 rfl ?_
      refine j_callV (d' := d - 1) hc dX10_ever_29 vX10_216 zP8.1 (ev_X2_keepsAlikeWithOneMore (by omega) zX8.1 hD hE zP8 zR8 (by omega) (by omega) zH8.1 zH8.2.1 hsr0 hsr1) rfl (by omega) (by omega) (by omega) rfl rfl (Nat.le_of_ble_eq_true rfl) (retE fun zv29 zq29 zp29 => ?_)
      obtain ⟨zor, kf7, bf7, lf7, zP7, zm7, zR7, zF7⟩ := zp29
      have zF7b : Fr (isSp S l sr) h' zq29 := zF7.mono fun z zz => isPl_sp zz
      have zX7 : LandX zq29 l (bD S l) (bE S l) (ruC S l) sr _ := zX8.fr fun z hz => zF7 z (fun y => by
        rcases y with y | y
        · rcases y with rfl | rfl | rfl | rfl <;> (simp at hz <;> omega)
        · have := isOwn_lo y; rcases hz with hz | hz <;> omega)
      have zH7 : PlnHas zq29 l (bD S l) (bE S l) (ruC S l) sr (lCo (bD S l)) wf8 kf7 bf7 lf7 wl8 := ⟨zH8.1, zH8.2.1, zH8.2.2.1, by rw [zsrj]; exact zP7, PlanW.mono zm7 (zH8.2.2.2.2.fr (zF7 _ (fun y => by
        rcases y with y | y
        · rcases y with y | y | y | y <;> simp at y
        · have := isOwn_lo y; simp at this)))⟩
      have zY7 : PlY S l sr h zq29 := ⟨_, _, _, _, _, _, zX7, zH7, zR7, zF8.tr zF7b⟩
      obtain ⟨xv, zxv, zx01, zxe⟩ : ∃ x : Int, zv29 = vI x ∧ (x = 0 ∨ x = 1) ∧ (x = 1 ↔ alS (bD S l) (bE S l) (ruC S l) (lCo (bD S l)) sr n) := by
        rcases zor with ⟨e, zal⟩ | ⟨e, zal⟩
        · exact ⟨1, e, Or.inr rfl, fun _ => zal, fun _ => rfl⟩
        · exact ⟨0, e, Or.inl rfl, fun z => by omega, fun z => absurd z zal⟩
      subst zxv
      refine j_if_eq (b := 0) (tgt := 38) hc dX10_ever_32 (by decide) ⟨by omega, by omega⟩ (fun zc2 => ?_) (fun zc2 => ?_)
      · refine j_iinc (L' := [_, _, _, _, _]) hc dX10_ever_38 rfl (Nat.le_of_ble_eq_true rfl) rfl ?_
        refine j_goto (tgt := 19) hc dX10_ever_41 (by decide) ?_
        exact ih _ (by omega) (n + 1) _ rfl (by omega) (by omega) (fun j j0 j1 => by by_cases e : j = n; (· rw [e]; exact fun z => by have := zxe.mpr z; omega); exact hj j j0 (by omega)) zY7
      · refine j_iload hc dX10_ever_35 rfl ?_
        exact j_iret hc he dX10_ever_37 rfl (by omega) (by omega) (by have hq := hpo _ zY7; rw [fsi_at (j := n) (by omega) (by omega) (fun i i0 hi => by simpa using hj i i0 hi) (by simpa using zxe.mp (by omega))] at hq; exact hq)
set_option maxRecDepth 100000 in
set_option maxHeartbeats 4000000 in
theorem ev_X10_ever_a {k : WC} {d : Nat} {h : AH} {S : BaS} {l sr : Int} (hd : 10 ≤ d) (hB : BarnAt h S) (hil : inI l) (hir : inI sr) : Ev k d mdX10_ever h [vR (0, 0), vI l, vI sr] 6 3975 (pe fun v h' => v = vI (aEver S l sr) ∧ BarnAt h' S ∧ Fr isBa h h') := by
  obtain ⟨⟨⟨zb0, zb11, zb12, zb13, zb14, zb141, zb15, zb18⟩, zTp, zRd⟩, zSp, zTw, zSt, zL, zK⟩ := id hB
  obtain ⟨zT1, ⟨zlc0, zlc1⟩, ⟨zrc0, zrc1⟩, zKl, zKr, zKw, ⟨zto0, zto1⟩, zse0, zse1⟩ := id zK
  by_cases hcs : lnV S l ∧ 0 ≤ sr ∧ sr ≤ 4
  · skip
    obtain ⟨hvl, hsr0, hsr1⟩ := id hcs
    obtain ⟨hl0, hl1⟩ := id hvl
    obtain ⟨hD, hE, hyr, hyo⟩ := zKl l hl0 hl1
    have hd1 := hD.1
    have hcp : plV S l sr 1 0 0 := ⟨⟨hvl, ⟨by omega, by omega⟩, ⟨by omega, by omega⟩, by omega, by omega⟩, hsr0, hsr1⟩
    refine Ev.mk (by decide +kernel) [_, _, _, _, _] rfl (Nat.le_of_ble_eq_true rfl) (fun w hc he => ?_)
    refine j_aload_n hc dX10_ever_0 rfl ?_
    refine j_iload_n hc dX10_ever_1 rfl ?_
    refine j_iload_n hc dX10_ever_2 rfl ?_
    refine j_iconst hc dX10_ever_3 ?_
    refine j_iconst hc dX10_ever_4 ?_
    refine j_iconst hc dX10_ever_5 ?_
    refine j_callV (d' := d - 1) hc dX10_ever_6 vX10_183 zb0 (ev_X10_planAt_ok (by omega) hB hcp) rfl (by omega) (by omega) (by omega) rfl rfl (Nat.le_of_ble_eq_true rfl) (retE fun zv6 zq6 zp6 => ?_)
    obtain ⟨zv6, zPl⟩ := zp6
    subst zv6
    obtain ⟨pl8, wf8, kf8, bf8, lf8, wl8, zX8, zH8, zn8, zR8, zF8⟩ := id zPl
    refine j_astore_n (L' := [_, _, _, _, _]) hc dX10_ever_9 (Nat.le_of_ble_eq_true rfl) rfl ?_
    refine j_aload_n hc dX10_ever_10 rfl ?_
    refine j_ifnonnull (tgt := 16) hc dX10_ever_11 (by decide) (fun zc1 => ?_) (fun zc1 => ?_)
    · refine j_iconst hc dX10_ever_16 ?_
      refine j_istore (L' := [_, _, _, _, _]) hc dX10_ever_17 (Nat.le_of_ble_eq_true rfl) rfl ?_
      exact lp_X10_ever (S := S) (l := l) (sr := sr) (by omega) hD hE hsr0 hsr1 (fun h2 zY => ⟨_, rfl, by unfold aEver; rw [if_pos hcs], zY.barn hB hl0 hl1 (by omega) (by omega), (by obtain ⟨_, _, _, _, _, _, _, _, _, zF⟩ := zY; exact zF.mono fun z zz => isLo_ba (isSp_lo (S := S) (by omega) (by omega) zz))⟩) hc he _ 2 _ rfl (by omega) (by omega) (fun j j0 j1 => by omega) ⟨_, _, _, _, _, _, zX8, zH8, zR8, zF8⟩
    · exact absurd zc1 (by simp)
  · skip
    refine Ev.mk (by decide +kernel) [_, _, _, _, _] rfl (Nat.le_of_ble_eq_true rfl) (fun w hc he => ?_)
    refine j_aload_n hc dX10_ever_0 rfl ?_
    refine j_iload_n hc dX10_ever_1 rfl ?_
    refine j_iload_n hc dX10_ever_2 rfl ?_
    refine j_iconst hc dX10_ever_3 ?_
    refine j_iconst hc dX10_ever_4 ?_
    refine j_iconst hc dX10_ever_5 ?_
    refine j_callV (d' := d - 1) hc dX10_ever_6 vX10_183 zb0 (ev_X10_planAt_no (by omega) hB hil hir ⟨by omega, by omega⟩ ⟨by omega, by omega⟩ ⟨by omega, by omega⟩ (fun z => hcs ⟨z.1.1, z.2⟩)) rfl (by omega) (by omega) (by omega) rfl rfl (Nat.le_of_ble_eq_true rfl) (ret1 ?_)
    refine j_astore_n (L' := [_, _, _, _, _]) hc dX10_ever_9 (Nat.le_of_ble_eq_true rfl) rfl ?_
    refine j_aload_n hc dX10_ever_10 rfl ?_
    refine j_ifnonnull (tgt := 16) hc dX10_ever_11 (by decide) (fun zc1 => ?_) (fun zc1 => ?_)
    · exact absurd rfl zc1
    · refine j_iconst hc dX10_ever_14 ?_
      exact j_iret hc he dX10_ever_15 rfl (by omega) (by omega) ⟨_, rfl, by unfold aEver; rw [if_neg hcs], hB, Fr.rf _ _⟩
