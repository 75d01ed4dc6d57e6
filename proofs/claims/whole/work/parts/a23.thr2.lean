/-! ===== the class's harvest, worth, ran ===== -/
theorem BarnAt.rul {h h' : AH} {S : BaS} {r : Int} (a : BarnAt h S) (F : Fr (isRule r) h h') (hU : RlO h' S r) (r1 : r < bRc S) (r0 : 0 ≤ r) : BarnAt h' S ∧ Fr isBa h h' := by
  obtain ⟨a1, a2, a3, a4, ⟨b1, b2, b3, b4⟩, a6⟩ := a
  have q : ∀ z : Nm, z.1 < 60 → h' z = h z := fun z hz => F z (by
    rintro (y | y | y) <;> (rw [y] at hz; simp at hz))
  have qr : ∀ (x : Int) (j : Nat), x ≠ r → h' (j, x) = h (j, x) := fun x j hx => F (j, x) (by
    rintro (y | y | y) <;> (injection y with y1 y2; exact hx y2))
  refine ⟨⟨a1.fr fun z hz => q z (by omega), a2.fr fun z hz => q z (by omega), a3.fr fun z hz => q z (by omega), a4.fr fun z hz => q z (by omega), ⟨fun l l0 l1 => (b1 l l0 l1).fr fun z hz => q z (by rcases hz with hz | hz <;> omega), fun l l0 l1 z hz => (q z (by rcases hz with hz | hz <;> omega)).trans (b2 l l0 l1 z hz), fun x x0 x1 => ?_, fun x x0 x1 j j0 j1 => (qr x j (by omega)).trans (b4 x x0 x1 j j0 j1)⟩, a6⟩, F.mono fun z zz => ?_⟩
  · by_cases e : x = r
    · rw [e]; exact hU
    · exact (b3 x x0 x1).fr fun j _ _ => qr x j e
  · rcases zz with y | y | y <;> (rw [y]; simp)
set_option maxRecDepth 100000 in
set_option maxHeartbeats 4000000 in
theorem ev_X10_harvest_x {k : WC} {d : Nat} {h : AH} {S : BaS} {l q i wh : Int} (hd : 12 ≤ d) (hntr : k.1.stackTraces = false) (hB : BarnAt h S) (hil : inI l) (hiq : inI q) (hii : inI i) (hiw : inI wh) : EvX k d mdX10_harvest h [vR (0, 0), vI l, vI q, vI i, vI wh] 1 6 (pe fun v h' => v = vI (aHarv S l q i wh) ∧ hvV S l q i wh ∧ BarnAt h' S ∧ Fr isBa h h') (¬ hvV S l q i wh) := by
  obtain ⟨⟨⟨zb0, zb11, zb12, zb13, zb14, zb141, zb15, zb18⟩, zTp, zRd⟩, zSp, zTw, zSt, zL, zK⟩ := id hB
  obtain ⟨zT1, ⟨zlc0, zlc1⟩, ⟨zrc0, zrc1⟩, zKl, zKr, zKw, ⟨zto0, zto1⟩, zse0, zse1⟩ := id zK
  by_cases hcs : lnV S l
  · skip
    have hv := hcs
    obtain ⟨hl0, hl1⟩ := id hcs
    obtain ⟨hD, hE, hyr, hyo⟩ := zKl l hl0 hl1
    obtain ⟨pl, hL, hpl⟩ := zL.1 l hl0 hl1
    have hd1 := hD.1
    have hd2 := hD.2.1
    have hd13 := hD.2.2.2.2.2.2.2.2.2.2.2.2
    refine EvX.mk hntr (by decide +kernel) [_, _, _, _, _, _, _] rfl (Nat.le_of_ble_eq_true rfl) (fun w hc he ht => ?_)
    refine j_aload_n hc dX10_harvest_0 rfl ?_
    refine j_iload_n hc dX10_harvest_1 rfl ?_
    refine j_callV (d' := d - 1) hc dX10_harvest_2 vX10_115 zb0 (ev_X10_landAt_ok (by omega) hB hcs) rfl (by omega) (by omega) (by omega) rfl rfl (Nat.le_of_ble_eq_true rfl) (ret1 ?_)
    refine j_astore (L' := [_, _, _, _, _, _, _]) hc dX10_harvest_5 (Nat.le_of_ble_eq_true rfl) rfl ?_
    refine j_aload hc dX10_harvest_7 rfl ?_
    refine j_ifnull (tgt := 44) hc dX10_harvest_9 (by decide) (fun zc1 => ?_) (fun zc1 => ?_)
    · exact absurd zc1 (by simp)
    · refine j_iload_n hc dX10_harvest_12 rfl ?_
      refine j_iconst hc dX10_harvest_13 ?_
      refine j_aload hc dX10_harvest_14 rfl ?_
      refine j_get hc dX10_harvest_16 fX10_119 hL.1 rfl ?_
      refine j_iconst hc dX10_harvest_19 ?_
      refine j_isub hc dX10_harvest_20 ?_
      refine j_callS (d' := d - 1) hc dX10_harvest_21 sX10_90 (ev_X10_within (by omega) hiq ⟨by omega, by omega⟩ ⟨by omega, by omega⟩) rfl (by omega) (by omega) (by omega) rfl rfl (Nat.le_of_ble_eq_true rfl) (ret1 ?_)
      refine j_if_eq (b := 0) (tgt := 44) hc dX10_harvest_24 (by decide) (by split <;> exact ⟨by omega, by omega⟩) (fun zc2 => ?_) (fun zc2 => ?_)
      · have zpx : ¬ hvV S l q i wh := fun z => one_neg zc2 ⟨z.1.2.1, by have := z.1.2.2; omega⟩
        exact j_throwS (is := 148) (tx := "no such harvest") hc ht zpx rfl (by decide) dX10_harvest_44 dX10_harvest_47 dX10_harvest_48 dX10_harvest_50 dX10_harvest_53 rfl (by omega) (by omega) (by omega)
      · have zw2 := one_pos zc2
        have zhq := hd13 q zw2.1 (by omega)
        refine j_iload_n hc dX10_harvest_27 rfl ?_
        refine j_iconst hc dX10_harvest_28 ?_
        refine j_aload hc dX10_harvest_29 rfl ?_
        refine j_get hc dX10_harvest_31 fX10_143 hL.1 rfl ?_
        refine j_iload_n hc dX10_harvest_34 rfl ?_
        refine j_iald hc dX10_harvest_35 hL.2.2.1 (by omega) (by omega) ?_
        refine j_iconst hc dX10_harvest_36 ?_
        refine j_isub hc dX10_harvest_37 ?_
        refine j_callS (d' := d - 1) hc dX10_harvest_38 sX10_90 (ev_X10_within (by omega) hii ⟨by omega, by omega⟩ ⟨by omega, by omega⟩) rfl (by omega) (by omega) (by omega) rfl rfl (Nat.le_of_ble_eq_true rfl) (ret1 ?_)
        refine j_if_ne (b := 0) (tgt := 54) hc dX10_harvest_41 (by decide) (by split <;> exact ⟨by omega, by omega⟩) (fun zc3 => ?_) (fun zc3 => ?_)
        · have zw3 := one_pos zc3
          refine j_iload hc dX10_harvest_54 rfl ?_
          refine j_iconst hc dX10_harvest_56 ?_
          refine j_iconst hc dX10_harvest_57 ?_
          refine j_callS (d' := d - 1) hc dX10_harvest_58 sX10_90 (ev_X10_within (by omega) hiw ⟨by omega, by omega⟩ ⟨by omega, by omega⟩) rfl (by omega) (by omega) (by omega) rfl rfl (Nat.le_of_ble_eq_true rfl) (ret1 ?_)
          refine j_if_ne (b := 0) (tgt := 74) hc dX10_harvest_61 (by decide) (by split <;> exact ⟨by omega, by omega⟩) (fun zc4 => ?_) (fun zc4 => ?_)
          · have zw4 := one_pos zc4
            have zhv : hvV S l q i wh := ⟨⟨hcs, zw2.1, by omega⟩, zw4, zw3.1, by omega⟩
            refine j_iload_n hc dX10_harvest_74 rfl ?_
            refine j_iconst hc dX10_harvest_75 ?_
            refine j_imul hc dX10_harvest_76 ?_
            refine j_iload_n hc dX10_harvest_77 rfl ?_
            refine j_iadd hc dX10_harvest_78 ?_
            refine j_istore (L' := [_, _, _, _, _, _, _]) hc dX10_harvest_79 (Nat.le_of_ble_eq_true rfl) rfl ?_
            refine j_iload hc dX10_harvest_81 rfl ?_
            refine j_if_ne (b := 0) (tgt := 97) hc dX10_harvest_83 (by decide) hiw (fun zc5 => ?_) (fun zc5 => ?_)
            · refine j_aload hc dX10_harvest_97 rfl ?_
              refine j_get hc dX10_harvest_99 fX10_158 hL.1 rfl ?_
              refine j_iload hc dX10_harvest_102 rfl ?_
              refine j_iald hc dX10_harvest_104 hL.2.2.2.2.1 (by omega) (by omega) ?_
              exact j_iret hc he dX10_harvest_105 rfl (by omega) (by omega) ⟨_, rfl, by unfold aHarv; rw [if_pos zhv]; first | rw [if_pos (by assumption)] | rw [if_neg (by assumption)], zhv, hB, Fr.rf _ _⟩
            · refine j_aload hc dX10_harvest_86 rfl ?_
              refine j_get hc dX10_harvest_88 fX10_155 hL.1 rfl ?_
              refine j_iload hc dX10_harvest_91 rfl ?_
              refine j_iald hc dX10_harvest_93 hL.2.2.2.1 (by omega) (by omega) ?_
              refine j_goto (tgt := 105) hc dX10_harvest_94 (by decide) ?_
              exact j_iret hc he dX10_harvest_105 rfl (by omega) (by omega) ⟨_, rfl, by unfold aHarv; rw [if_pos zhv]; first | rw [if_pos (by assumption)] | rw [if_neg (by assumption)], zhv, hB, Fr.rf _ _⟩
          · have zpx : ¬ hvV S l q i wh := fun z => one_neg zc4 z.2.1
            exact j_throwS (is := 153) (tx := "no such thing of a harvest") hc ht zpx rfl (by decide) dX10_harvest_64 dX10_harvest_67 dX10_harvest_68 dX10_harvest_70 dX10_harvest_73 rfl (by omega) (by omega) (by omega)
        · have zpx : ¬ hvV S l q i wh := fun z => one_neg zc3 ⟨z.2.2.1, by have := z.2.2.2; omega⟩
          exact j_throwS (is := 148) (tx := "no such harvest") hc ht zpx rfl (by decide) dX10_harvest_44 dX10_harvest_47 dX10_harvest_48 dX10_harvest_50 dX10_harvest_53 rfl (by omega) (by omega) (by omega)
  have zpx : ¬ hvV S l q i wh := fun z => hcs z.1.1
  refine EvX.mk hntr (by decide +kernel) [_, _, _, _, _, _, _] rfl (Nat.le_of_ble_eq_true rfl) (fun w hc he ht => ?_)
  refine j_aload_n hc dX10_harvest_0 rfl ?_
  refine j_iload_n hc dX10_harvest_1 rfl ?_
  refine j_callV (d' := d - 1) hc dX10_harvest_2 vX10_115 zb0 (ev_X10_landAt_no (by omega) hB hil hcs) rfl (by omega) (by omega) (by omega) rfl rfl (Nat.le_of_ble_eq_true rfl) (ret1 ?_)
  refine j_astore (L' := [_, _, _, _, _, _, _]) hc dX10_harvest_5 (Nat.le_of_ble_eq_true rfl) rfl ?_
  refine j_aload hc dX10_harvest_7 rfl ?_
  refine j_ifnull (tgt := 44) hc dX10_harvest_9 (by decide) (fun zc1 => ?_) (fun zc1 => ?_)
  · exact j_throwS (is := 148) (tx := "no such harvest") hc ht zpx rfl (by decide) dX10_harvest_44 dX10_harvest_47 dX10_harvest_48 dX10_harvest_50 dX10_harvest_53 rfl (by omega) (by omega) (by omega)
  · exact absurd rfl zc1
set_option maxRecDepth 100000 in
set_option maxHeartbeats 4000000 in
theorem ev_X10_worth_x {k : WC} {d : Nat} {h : AH} {S : BaS} {r a t n p my : Int} (hd : 12 ≤ d) (hntr : k.1.stackTraces = false) (hB : BarnAt h S) (hir : inI r) (hia : inI a) (hit : inI t) (hin : inI n) (hip : inI p) (him : inI my) : EvX k d mdX10_worth h [vR (0, 0), vI r, vI a, vI t, vI n, vI p, vI my] 1 6 (pe fun v h' => v = vI (aWorth S r a t n p my) ∧ woV S r ∧ BarnAt h' S ∧ Fr isBa h h') (¬ woV S r) := by
  obtain ⟨⟨⟨zb0, zb11, zb12, zb13, zb14, zb141, zb15, zb18⟩, zTp, zRd⟩, zSp, zTw, zSt, zL, zK⟩ := id hB
  obtain ⟨zT1, ⟨zlc0, zlc1⟩, ⟨zrc0, zrc1⟩, zKl, zKr, zKw, ⟨zto0, zto1⟩, zse0, zse1⟩ := id zK
  refine EvX.mk hntr (by decide +kernel) [_, _, _, _, _, _, _] rfl (Nat.le_of_ble_eq_true rfl) (fun w hc he ht => ?_)
  refine j_iload_n hc dX10_worth_0 rfl ?_
  refine j_iconst hc dX10_worth_1 ?_
  refine j_aload_n hc dX10_worth_2 rfl ?_
  refine j_get hc dX10_worth_3 fX10_105 zb0 rfl ?_
  refine j_iconst hc dX10_worth_6 ?_
  refine j_isub hc dX10_worth_7 ?_
  refine j_callS (d' := d - 1) hc dX10_worth_8 sX10_90 (ev_X10_within (by omega) hir ⟨by omega, by omega⟩ ⟨by omega, by omega⟩) rfl (by omega) (by omega) (by omega) rfl rfl (Nat.le_of_ble_eq_true rfl) (ret1 ?_)
  refine j_if_ne (b := 0) (tgt := 24) hc dX10_worth_11 (by decide) (by split <;> exact ⟨by omega, by omega⟩) (fun zc1 => ?_) (fun zc1 => ?_)
  · have zw1 : woV S r := by have := one_pos zc1; exact ⟨this.1, by omega⟩
    obtain ⟨zt1, zlt1, zU, zln⟩ := zL.2.2.1 r zw1.1 zw1.2
    have zcs := zKr r zw1.1 zw1.2
    refine j_aload_n hc dX10_worth_24 rfl ?_
    refine j_get hc dX10_worth_25 fX10_40 zb0 rfl ?_
    refine j_iload_n hc dX10_worth_28 rfl ?_
    refine j_aald hc dX10_worth_29 zb12 (by decide) (by decide) (by omega) (by omega) ?_
    rw [show rnF (bRc S) r = some (60, r) from if_pos ⟨zw1.1, zw1.2⟩]
    refine j_iload_n hc dX10_worth_30 rfl ?_
    refine j_iload_n hc dX10_worth_31 rfl ?_
    refine j_iload hc dX10_worth_32 rfl ?_
    refine j_iload hc dX10_worth_34 rfl ?_
    refine j_iload hc dX10_worth_36 rfl ?_
    refine j_callV (d' := d - 1) hc dX10_worth_38 vX10_179 zU.1 (ev_X4_worthOf (by omega) zU zln (fun j j0 j1 => cfL_in zcs j j0 j1) (by have := zcs.1; omega) hia hit hin hip him) rfl (by omega) (by omega) (by omega) rfl rfl (Nat.le_of_ble_eq_true rfl) (retE fun zv38 zq38 zp38 => ?_)
    have zvI : zv38 = vI (woS (cfL (flC (bR S r))) (flC (bR S r)).length a t n p my) := zp38.1
    subst zvI
    exact j_iret hc he dX10_worth_41 rfl (by omega) (by omega) (by obtain ⟨zv, ⟨zt9, zlt9, zU9, zl9⟩, zF9⟩ := zp38; obtain ⟨zB9, zFB⟩ := hB.rul zF9 ⟨zt9, zlt9, zU9, zl9⟩ zw1.2 zw1.1; exact ⟨_, rfl, by unfold aWorth; rw [if_pos zw1], zw1, zB9, zFB⟩)
  · have zpx : ¬ woV S r := fun z => one_neg zc1 ⟨z.1, by have := z.2; omega⟩
    exact j_throwS (is := 177) (tx := "no such rule") hc ht zpx rfl (by decide) dX10_worth_14 dX10_worth_17 dX10_worth_18 dX10_worth_20 dX10_worth_23 rfl (by omega) (by omega) (by omega)
set_option maxRecDepth 100000 in
set_option maxHeartbeats 4000000 in
theorem ev_X10_ran_x {k : WC} {d : Nat} {h : AH} {S : BaS} {t i x : Int} (hd : 12 ≤ d) (hntr : k.1.stackTraces = false) (hB : BarnAt h S) (hit : inI t) (hii : inI i) (hix : inI x) : EvX k d mdX10_ran h [vR (0, 0), vI t, vI i, vI x] 1 6 (pe fun v h' => v = vI (aRan S t i x) ∧ raV S t i x ∧ BarnAt h' S ∧ Fr isBa h h') (¬ raV S t i x) := by
  obtain ⟨⟨⟨zb0, zb11, zb12, zb13, zb14, zb141, zb15, zb18⟩, zTp, zRd⟩, zSp, zTw, zSt, zL, zK⟩ := id hB
  obtain ⟨zT1, ⟨zlc0, zlc1⟩, ⟨zrc0, zrc1⟩, zKl, zKr, zKw, ⟨zto0, zto1⟩, zse0, zse1⟩ := id zK
  refine EvX.mk hntr (by decide +kernel) [_, _, _, _] rfl (Nat.le_of_ble_eq_true rfl) (fun w hc he ht => ?_)
  refine j_iload_n hc dX10_ran_0 rfl ?_
  refine j_iconst hc dX10_ran_1 ?_
  refine j_aload_n hc dX10_ran_2 rfl ?_
  refine j_get hc dX10_ran_3 fX10_72 zb0 rfl ?_
  refine j_get hc dX10_ran_6 fX10_286 zSt.1 rfl ?_
  refine j_iconst hc dX10_ran_9 ?_
  refine j_isub hc dX10_ran_10 ?_
  refine j_callS (d' := d - 1) hc dX10_ran_11 sX10_90 (ev_X10_within (by omega) hit ⟨by omega, by omega⟩ ⟨by omega, by omega⟩) rfl (by omega) (by omega) (by omega) rfl rfl (Nat.le_of_ble_eq_true rfl) (ret1 ?_)
  refine j_if_eq (b := 0) (tgt := 34) hc dX10_ran_14 (by decide) (by split <;> exact ⟨by omega, by omega⟩) (fun zc1 => ?_) (fun zc1 => ?_)
  · have zpx : ¬ raV S t i x := fun z => one_neg zc1 ⟨z.1.1, by have := z.1.2; omega⟩
    exact j_throwSW (is := 289) (tx := "no such season of a run") hc ht zpx rfl (by decide) dX10_ran_34 dX10_ran_37 dX10_ran_38 dX10_ran_41 dX10_ran_44 rfl (by omega) (by omega) (by omega)
  · have zw1 := one_pos zc1
    refine j_iload_n hc dX10_ran_17 rfl ?_
    refine j_iconst hc dX10_ran_18 ?_
    refine j_aload_n hc dX10_ran_19 rfl ?_
    refine j_get hc dX10_ran_20 fX10_72 zb0 rfl ?_
    refine j_get hc dX10_ran_23 fX10_278 zSt.1 rfl ?_
    refine j_iconst hc dX10_ran_26 ?_
    refine j_isub hc dX10_ran_27 ?_
    refine j_callS (d' := d - 1) hc dX10_ran_28 sX10_90 (ev_X10_within (by omega) hii ⟨by omega, by omega⟩ ⟨by omega, by omega⟩) rfl (by omega) (by omega) (by omega) rfl rfl (Nat.le_of_ble_eq_true rfl) (ret1 ?_)
    refine j_if_ne (b := 0) (tgt := 45) hc dX10_ran_31 (by decide) (by split <;> exact ⟨by omega, by omega⟩) (fun zc2 => ?_) (fun zc2 => ?_)
    · have zw2 := one_pos zc2
      refine j_iload_n hc dX10_ran_45 rfl ?_
      refine j_iconst hc dX10_ran_46 ?_
      refine j_bipush hc dX10_ran_47 (by decide) ?_
      refine j_callS (d' := d - 1) hc dX10_ran_49 sX10_90 (ev_X10_within (by omega) hix ⟨by omega, by omega⟩ ⟨by omega, by omega⟩) rfl (by omega) (by omega) (by omega) rfl rfl (Nat.le_of_ble_eq_true rfl) (ret1 ?_)
      refine j_if_ne (b := 0) (tgt := 66) hc dX10_ran_52 (by decide) (by split <;> exact ⟨by omega, by omega⟩) (fun zc3 => ?_) (fun zc3 => ?_)
      · have zw3 := one_pos zc3
        have zra : raV S t i x := ⟨⟨zw1.1, by omega⟩, ⟨zw2.1, by omega⟩, zw3⟩
        refine j_aload_n hc dX10_ran_66 rfl ?_
        refine j_get hc dX10_ran_67 fX10_72 zb0 rfl ?_
        refine j_get hc dX10_ran_70 fX10_293 zSt.1 rfl ?_
        refine j_iload_n hc dX10_ran_73 rfl ?_
        refine j_iload_n hc dX10_ran_74 rfl ?_
        refine j_callS (d' := d - 1) hc dX10_ran_75 sX10_296 (ev_X7_placeOf (by omega)) rfl (by omega) (by omega) (by omega) rfl rfl (Nat.le_of_ble_eq_true rfl) (ret1 ?_)
        refine j_iload_n hc dX10_ran_78 rfl ?_
        refine j_iadd hc dX10_ran_79 ?_
        refine j_iald hc dX10_ran_80 zSt.2.1 (by unfold plS; omega) (by unfold plS; omega) ?_
        exact j_iret hc he dX10_ran_81 rfl (by omega) (by omega) ⟨_, rfl, by unfold aRan; rw [if_pos zra, show 7 * (40 * t + i) + x = plS t i + x by unfold plS; omega], zra, hB, Fr.rf _ _⟩
      · have zpx : ¬ raV S t i x := fun z => one_neg zc3 z.2.2
        exact j_throwSW (is := 291) (tx := "no such thing of a season") hc ht zpx rfl (by decide) dX10_ran_55 dX10_ran_58 dX10_ran_59 dX10_ran_62 dX10_ran_65 rfl (by omega) (by omega) (by omega)
    · have zpx : ¬ raV S t i x := fun z => one_neg zc2 ⟨z.2.1.1, by have := z.2.1.2; omega⟩
      exact j_throwSW (is := 289) (tx := "no such season of a run") hc ht zpx rfl (by decide) dX10_ran_34 dX10_ran_37 dX10_ran_38 dX10_ran_41 dX10_ran_44 rfl (by omega) (by omega) (by omega)
