/-! ===== the reference: harvest, worth, ran, feed ===== -/
abbrev hvV (S : BaS) (l q i wh : Int) : Prop := (lnV S l ∧ 0 ≤ q ∧ q < lSe (bD S l)) ∧ (0 ≤ wh ∧ wh ≤ 1) ∧ 0 ≤ i ∧ i < lHv (bD S l) q
def aHarv (S : BaS) (l q i wh : Int) : Int := if hvV S l q i wh then (if wh = 0 then lSk (bD S l) (q * 4 + i) else lWt (bD S l) (q * 4 + i)) else 0
def tHarv (S : BaS) (l q i wh : Int) : Int := if hvV S l q i wh then 0 else 1
abbrev woV (S : BaS) (r : Int) : Prop := 0 ≤ r ∧ r < bRc S
def aWorth (S : BaS) (r a t n p my : Int) : Int := if woV S r then woS (cfL (flC (bR S r))) (flC (bR S r)).length a t n p my else 0
def tWorth (S : BaS) (r : Int) : Int := if woV S r then 0 else 1
abbrev raV (S : BaS) (t i x : Int) : Prop := (0 ≤ t ∧ t < bTo S) ∧ (0 ≤ i ∧ i < bSe S) ∧ 0 ≤ x ∧ x ≤ 6
def aRan (S : BaS) (t i x : Int) : Int := if raV S t i x then bCe S (7 * (40 * t + i) + x) else 0
def tRan (S : BaS) (t i x : Int) : Int := if raV S t i x then 0 else 1
theorem MoB.pile {h h' : AH} (hp : ∃ pf', h' (230, 0) = some (oL 400 pf')) (F : Fr (fun z => z = (230, 0)) h h') (a : MoB h) : MoB h' := by
  obtain ⟨-, ⟨f1, a1⟩, ⟨f2, a2⟩, ⟨f3, a3⟩, ⟨f4, a4⟩, ⟨f5, a5⟩, f6, a6⟩ := a
  exact ⟨hp, ⟨f1, (F _ (by decide)).trans a1⟩, ⟨f2, (F _ (by decide)).trans a2⟩, ⟨f3, (F _ (by decide)).trans a3⟩, ⟨f4, (F _ (by decide)).trans a4⟩, ⟨f5, (F _ (by decide)).trans a5⟩, f6, (F _ (by decide)).trans a6⟩
theorem MoR.th {s : Int → Int} {A : MAs} {S : BaS} {th v : Int} (h : MoR s A S th) : MoR (fu s 0 v) A S v := ⟨rfl, h.2⟩
set_option maxRecDepth 100000 in
set_option maxHeartbeats 4000000 in
theorem ev_X11_harvest_a {k : WC} {d : Nat} {h : AH} {S : BaS} {th : Int} {l q i wh : Int} (hd : 8 ≤ d) (hMo : ModAt h S th) (hil : inI l) (hiq : inI q) (hii : inI i) (hiw : inI wh) : Ev k d mdX11_harvest h [vR (70, 0), vI l, vI q, vI i, vI wh] 0 0 (pe fun v h' => v = vI (aHarv S l q i wh) ∧ ModAt h' S (tHarv S l q i wh) ∧ Fr isMo h h') := by
  obtain ⟨s, A, hS, hR, hB, hX, hK⟩ := id hMo
  obtain ⟨m0, m2, m22, m27, m44, m45, m46, mTp, mLd, mRu, mRw, mFr⟩ := id hR
  obtain ⟨⟨kTa, kTb⟩, ⟨kL0, kL1⟩, ⟨kR0, kR1⟩, kLd, kRu, kRw, ⟨kT0, kT1⟩, kS0, kS1⟩ := id hK
  refine Ev.mk (by decide +kernel) [_, _, _, _, _] rfl (Nat.le_of_ble_eq_true rfl) (fun w hc he => ?_)
  refine j_aload_n hc dX11_harvest_0 rfl ?_
  refine j_aload_n hc dX11_harvest_1 rfl ?_
  refine j_iload_n hc dX11_harvest_2 rfl ?_
  refine j_iload_n hc dX11_harvest_3 rfl ?_
  refine j_callV (d' := d - 1) hc dX11_harvest_4 vX11_265 hS.1 (ev_X11_isSeason (by omega) hS hR hK hil hiq) rfl (by omega) (by omega) (by omega) rfl rfl (Nat.le_of_ble_eq_true rfl) (ret1 ?_)
  refine j_if_eq (b := 0) (tgt := 44) hc dX11_harvest_7 (by decide) (by split <;> exact ⟨by omega, by omega⟩) (fun zc1 => ?_) (fun zc1 => ?_)
  · have zw5 := one_neg zc1
    refine j_iconst hc dX11_harvest_44 ?_
    refine j_put  hc dX11_harvest_45 pX11_114 hS.1 rfl mset_0 ?_
    generalize ezh1 : up _ _ _ = zh1
    have zzmod_zh1 := MdS.pf ezh1 hS
    have zzmob_zh1 := MoB.mv ezh1 (by simp) hB
    have zzmox_zh1 := MoX.mv ezh1 (by simp) hX
    refine j_aload_n hc dX11_harvest_48 rfl ?_
    refine j_get hc dX11_harvest_49 fX11_114 zzmod_zh1.1 rfl ?_
    refine j_iconst hc dX11_harvest_52 ?_
    rw [show fu s 0 1 0 = 1 from rfl]
    refine j_icmp_ne (tgt := 60) hc dX11_harvest_53 (by decide) ⟨by omega, by omega⟩ ⟨by omega, by omega⟩ (fun zc2 => ?_) (fun zc2 => ?_)
    · exact absurd rfl zc2
    · refine j_iconst hc dX11_harvest_56 ?_
      refine j_goto (tgt := 96) hc dX11_harvest_57 (by decide) ?_
      exact j_iret hc he dX11_harvest_96 rfl (by omega) (by omega) ⟨_, rfl, by unfold aHarv; rw [if_neg (by omega)], by unfold tHarv; rw [if_neg (by omega)]; exact ⟨_, _, zzmod_zh1, MoR.th hR, zzmob_zh1, zzmox_zh1, hK⟩, (by rw [← ezh1]; exact (Fr.rf _ _).push (by first | exact Or.inl rfl | exact Or.inr (by decide)))⟩
  · have zs := one_pos zc1
    have zw1 := zs.1
    obtain ⟨hD, hE, hrn, hyo⟩ := kLd l zw1.1 zw1.2
    have hM := mLd l zw1.1 zw1.2
    obtain ⟨⟨zl0, zl1⟩, mSe, mNe, mPa, mCo, mMi, mRo, mLa, mRn, mHv, mBu, mSl, mGr, mTb⟩ := id hM
    obtain ⟨d1, d2, d3, d4, d5, d6, d7, d8, d9, d10, d11, d12, d13⟩ := id hD
    obtain ⟨y1, y2, y3, y4, y5, y6, y7, y8, y9, y10⟩ := id hE
    have hW := fun k => ru_of (k := k) (l := l) hR hK zw1
    have hWb := fun k => ru_of (k := k) (l := l) (MoR.s37 (l := l) (c := lCo (bD S l)) hR) hK zw1
    obtain ⟨zh1, zh2, zh3, zh4, zh5, zh6⟩ := d13 q zs.2.1 zs.2.2
    have zhv := (mHv q zs.2.1 zs.2.2).1
    refine j_iload hc dX11_harvest_10 rfl ?_
    refine j_iconst hc dX11_harvest_12 ?_
    refine j_iconst hc dX11_harvest_13 ?_
    refine j_callS (d' := d - 1) hc dX11_harvest_14 sX11_145 (ev_X11_in (by omega) hiw ⟨by omega, by omega⟩ ⟨by omega, by omega⟩) rfl (by omega) (by omega) (by omega) rfl rfl (Nat.le_of_ble_eq_true rfl) (ret1 ?_)
    refine j_if_eq (b := 0) (tgt := 44) hc dX11_harvest_17 (by decide) (by split <;> exact ⟨by omega, by omega⟩) (fun zc3 => ?_) (fun zc3 => ?_)
    · have zw5 := one_neg zc3
      refine j_iconst hc dX11_harvest_44 ?_
      refine j_put  hc dX11_harvest_45 pX11_114 hS.1 rfl mset_0 ?_
      generalize ezh2 : up _ _ _ = zh2
      have zzmod_zh2 := MdS.pf ezh2 hS
      have zzmob_zh2 := MoB.mv ezh2 (by simp) hB
      have zzmox_zh2 := MoX.mv ezh2 (by simp) hX
      refine j_aload_n hc dX11_harvest_48 rfl ?_
      refine j_get hc dX11_harvest_49 fX11_114 zzmod_zh2.1 rfl ?_
      refine j_iconst hc dX11_harvest_52 ?_
      rw [show fu s 0 1 0 = 1 from rfl]
      refine j_icmp_ne (tgt := 60) hc dX11_harvest_53 (by decide) ⟨by omega, by omega⟩ ⟨by omega, by omega⟩ (fun zc4 => ?_) (fun zc4 => ?_)
      · exact absurd rfl zc4
      · refine j_iconst hc dX11_harvest_56 ?_
        refine j_goto (tgt := 96) hc dX11_harvest_57 (by decide) ?_
        exact j_iret hc he dX11_harvest_96 rfl (by omega) (by omega) ⟨_, rfl, by unfold aHarv; rw [if_neg (by omega)], by unfold tHarv; rw [if_neg (by omega)]; exact ⟨_, _, zzmod_zh2, MoR.th hR, zzmob_zh2, zzmox_zh2, hK⟩, (by rw [← ezh2]; exact (Fr.rf _ _).push (by first | exact Or.inl rfl | exact Or.inr (by decide)))⟩
    · have zw2 := one_pos zc3
      refine j_iload_n hc dX11_harvest_20 rfl ?_
      refine j_iconst hc dX11_harvest_21 ?_
      refine j_aload_n hc dX11_harvest_22 rfl ?_
      refine j_get hc dX11_harvest_23 fX11_31 hS.1 rfl ?_
      refine j_iconst hc dX11_harvest_26 ?_
      refine j_iload_n hc dX11_harvest_27 rfl ?_
      refine j_imul hc dX11_harvest_28 ?_
      refine j_iload_n hc dX11_harvest_29 rfl ?_
      refine j_iadd hc dX11_harvest_30 ?_
      refine j_iald hc dX11_harvest_31 hS.2.2.2.2.2.2.2.2.1 (by omega) (by omega) ?_
      rw [zhv]
      refine j_iconst hc dX11_harvest_32 ?_
      refine j_isub hc dX11_harvest_33 ?_
      refine j_callS (d' := d - 1) hc dX11_harvest_34 sX11_145 (ev_X11_in (by omega) hii ⟨by omega, by omega⟩ ⟨by omega, by omega⟩) rfl (by omega) (by omega) (by omega) rfl rfl (Nat.le_of_ble_eq_true rfl) (ret1 ?_)
      refine j_if_eq (b := 0) (tgt := 44) hc dX11_harvest_37 (by decide) (by split <;> exact ⟨by omega, by omega⟩) (fun zc5 => ?_) (fun zc5 => ?_)
      · have zw5 : ¬ (0 ≤ i ∧ i < lHv (bD S l) q) := by have := one_neg zc5; omega
        refine j_iconst hc dX11_harvest_44 ?_
        refine j_put  hc dX11_harvest_45 pX11_114 hS.1 rfl mset_0 ?_
        generalize ezh3 : up _ _ _ = zh3
        have zzmod_zh3 := MdS.pf ezh3 hS
        have zzmob_zh3 := MoB.mv ezh3 (by simp) hB
        have zzmox_zh3 := MoX.mv ezh3 (by simp) hX
        refine j_aload_n hc dX11_harvest_48 rfl ?_
        refine j_get hc dX11_harvest_49 fX11_114 zzmod_zh3.1 rfl ?_
        refine j_iconst hc dX11_harvest_52 ?_
        rw [show fu s 0 1 0 = 1 from rfl]
        refine j_icmp_ne (tgt := 60) hc dX11_harvest_53 (by decide) ⟨by omega, by omega⟩ ⟨by omega, by omega⟩ (fun zc6 => ?_) (fun zc6 => ?_)
        · exact absurd rfl zc6
        · refine j_iconst hc dX11_harvest_56 ?_
          refine j_goto (tgt := 96) hc dX11_harvest_57 (by decide) ?_
          exact j_iret hc he dX11_harvest_96 rfl (by omega) (by omega) ⟨_, rfl, by unfold aHarv; rw [if_neg (by omega)], by unfold tHarv; rw [if_neg (by omega)]; exact ⟨_, _, zzmod_zh3, MoR.th hR, zzmob_zh3, zzmox_zh3, hK⟩, (by rw [← ezh3]; exact (Fr.rf _ _).push (by first | exact Or.inl rfl | exact Or.inr (by decide)))⟩
      · have zw3 : 0 ≤ i ∧ i < lHv (bD S l) q := by have := one_pos zc5; omega
        obtain ⟨zs1, zs2⟩ := (mHv q zs.2.1 zs.2.2).2 i zw3.1 zw3.2
        refine j_iconst hc dX11_harvest_40 ?_
        refine j_goto (tgt := 45) hc dX11_harvest_41 (by decide) ?_
        refine j_put  hc dX11_harvest_45 pX11_114 hS.1 rfl mset_0 ?_
        generalize ezh4 : up _ _ _ = zh4
        have zzmod_zh4 := MdS.pf ezh4 hS
        have zzmob_zh4 := MoB.mv ezh4 (by simp) hB
        have zzmox_zh4 := MoX.mv ezh4 (by simp) hX
        refine j_aload_n hc dX11_harvest_48 rfl ?_
        refine j_get hc dX11_harvest_49 fX11_114 zzmod_zh4.1 rfl ?_
        refine j_iconst hc dX11_harvest_52 ?_
        rw [show fu s 0 0 0 = 0 from rfl]
        refine j_icmp_ne (tgt := 60) hc dX11_harvest_53 (by decide) ⟨by omega, by omega⟩ ⟨by omega, by omega⟩ (fun zc7 => ?_) (fun zc7 => ?_)
        · refine j_iload hc dX11_harvest_60 rfl ?_
          refine j_if_ne (b := 0) (tgt := 82) hc dX11_harvest_62 (by decide) hiw (fun zc8 => ?_) (fun zc8 => ?_)
          · refine j_aload_n hc dX11_harvest_82 rfl ?_
            refine j_get hc dX11_harvest_83 fX11_28 zzmod_zh4.1 rfl ?_
            refine j_iconst hc dX11_harvest_86 ?_
            refine j_iconst hc dX11_harvest_87 ?_
            refine j_iload_n hc dX11_harvest_88 rfl ?_
            refine j_imul hc dX11_harvest_89 ?_
            refine j_iload_n hc dX11_harvest_90 rfl ?_
            refine j_iadd hc dX11_harvest_91 ?_
            refine j_imul hc dX11_harvest_92 ?_
            refine j_iload_n hc dX11_harvest_93 rfl ?_
            refine j_iadd hc dX11_harvest_94 ?_
            refine j_iald hc dX11_harvest_95 zzmod_zh4.2.2.2.2.2.2.2.1 (by omega) (by omega) ?_
            try rw [zs2]
            exact j_iret hc he dX11_harvest_96 rfl (by omega) (by omega) ⟨_, rfl, by unfold aHarv; rw [if_pos (⟨zs, zw2, zw3⟩)]; first | rw [if_pos (by assumption)] | rw [if_neg (by assumption)], by unfold tHarv; rw [if_pos (⟨zs, zw2, zw3⟩)]; exact ⟨_, _, zzmod_zh4, MoR.th hR, zzmob_zh4, zzmox_zh4, hK⟩, (by rw [← ezh4]; exact (Fr.rf _ _).push (by first | exact Or.inl rfl | exact Or.inr (by decide)))⟩
          · refine j_aload_n hc dX11_harvest_65 rfl ?_
            refine j_get hc dX11_harvest_66 fX11_25 zzmod_zh4.1 rfl ?_
            refine j_iconst hc dX11_harvest_69 ?_
            refine j_iconst hc dX11_harvest_70 ?_
            refine j_iload_n hc dX11_harvest_71 rfl ?_
            refine j_imul hc dX11_harvest_72 ?_
            refine j_iload_n hc dX11_harvest_73 rfl ?_
            refine j_iadd hc dX11_harvest_74 ?_
            refine j_imul hc dX11_harvest_75 ?_
            refine j_iload_n hc dX11_harvest_76 rfl ?_
            refine j_iadd hc dX11_harvest_77 ?_
            refine j_iald hc dX11_harvest_78 zzmod_zh4.2.2.2.2.2.2.1 (by omega) (by omega) ?_
            rw [zs1]
            refine j_goto (tgt := 96) hc dX11_harvest_79 (by decide) ?_
            try rw [zs2]
            exact j_iret hc he dX11_harvest_96 rfl (by omega) (by omega) ⟨_, rfl, by unfold aHarv; rw [if_pos (⟨zs, zw2, zw3⟩)]; first | rw [if_pos (by assumption)] | rw [if_neg (by assumption)], by unfold tHarv; rw [if_pos (⟨zs, zw2, zw3⟩)]; exact ⟨_, _, zzmod_zh4, MoR.th hR, zzmob_zh4, zzmox_zh4, hK⟩, (by rw [← ezh4]; exact (Fr.rf _ _).push (by first | exact Or.inl rfl | exact Or.inr (by decide)))⟩
        · exact absurd zc7 (by show ¬ (0 : Int) = 1; decide)
set_option maxRecDepth 100000 in
set_option maxHeartbeats 4000000 in
theorem ev_X11_worth_a {k : WC} {d : Nat} {h : AH} {S : BaS} {th : Int} {r a t n p my : Int} (hd : 12 ≤ d) (hMo : ModAt h S th) (hir : inI r) (hia : inI a) (hit : inI t) (hin : inI n) (hip : inI p) (him : inI my) : Ev k d mdX11_worth h [vR (70, 0), vI r, vI a, vI t, vI n, vI p, vI my] 0 0 (pe fun v h' => v = vI (aWorth S r a t n p my) ∧ ModAt h' S (tWorth S r) ∧ Fr isMo h h') := by
  obtain ⟨s, A, hS, hR, hB, hX, hK⟩ := id hMo
  obtain ⟨m0, m2, m22, m27, m44, m45, m46, mTp, mLd, mRu, mRw, mFr⟩ := id hR
  obtain ⟨⟨kTa, kTb⟩, ⟨kL0, kL1⟩, ⟨kR0, kR1⟩, kLd, kRu, kRw, ⟨kT0, kT1⟩, kS0, kS1⟩ := id hK
  refine Ev.mk (by decide +kernel) [_, _, _, _, _, _, _] rfl (Nat.le_of_ble_eq_true rfl) (fun w hc he => ?_)
  refine j_aload_n hc dX11_worth_0 rfl ?_
  refine j_iload_n hc dX11_worth_1 rfl ?_
  refine j_iconst hc dX11_worth_2 ?_
  refine j_aload_n hc dX11_worth_3 rfl ?_
  refine j_get hc dX11_worth_4 fX11_227 hS.1 rfl ?_
  rw [m27]
  refine j_iconst hc dX11_worth_7 ?_
  refine j_isub hc dX11_worth_8 ?_
  refine j_callS (d' := d - 1) hc dX11_worth_9 sX11_145 (ev_X11_in (by omega) hir ⟨by omega, by omega⟩ ⟨by omega, by omega⟩) rfl (by omega) (by omega) (by omega) rfl rfl (Nat.le_of_ble_eq_true rfl) (ret1 ?_)
  refine j_if_eq (b := 0) (tgt := 19) hc dX11_worth_12 (by decide) (by split <;> exact ⟨by omega, by omega⟩) (fun zc1 => ?_) (fun zc1 => ?_)
  · have zw5 : ¬ woV S r := by have := one_neg zc1; omega
    refine j_iconst hc dX11_worth_19 ?_
    refine j_put  hc dX11_worth_20 pX11_114 hS.1 rfl mset_0 ?_
    generalize ezh1 : up _ _ _ = zh1
    have zzmod_zh1 := MdS.pf ezh1 hS
    have zzmob_zh1 := MoB.mv ezh1 (by simp) hB
    have zzmox_zh1 := MoX.mv ezh1 (by simp) hX
    refine j_aload_n hc dX11_worth_23 rfl ?_
    refine j_get hc dX11_worth_24 fX11_114 zzmod_zh1.1 rfl ?_
    refine j_iconst hc dX11_worth_27 ?_
    rw [show fu s 0 1 0 = 1 from rfl]
    refine j_icmp_ne (tgt := 35) hc dX11_worth_28 (by decide) ⟨by omega, by omega⟩ ⟨by omega, by omega⟩ (fun zc2 => ?_) (fun zc2 => ?_)
    · exact absurd rfl zc2
    · refine j_iconst hc dX11_worth_31 ?_
      refine j_goto (tgt := 48) hc dX11_worth_32 (by decide) ?_
      exact j_iret hc he dX11_worth_48 rfl (by omega) (by omega) ⟨_, rfl, by unfold aWorth; rw [if_neg (zw5)], by unfold tWorth; rw [if_neg (zw5)]; exact ⟨_, _, zzmod_zh1, MoR.th hR, zzmob_zh1, zzmox_zh1, hK⟩, (by rw [← ezh1]; exact (Fr.rf _ _).push (by first | exact Or.inl rfl | exact Or.inr (by decide)))⟩
  · have zw1 : woV S r := by have := one_pos zc1; exact ⟨this.1, by omega⟩
    obtain ⟨zr1, zr2⟩ := mRu r zw1.1 zw1.2
    refine j_iconst hc dX11_worth_15 ?_
    refine j_goto (tgt := 20) hc dX11_worth_16 (by decide) ?_
    refine j_put  hc dX11_worth_20 pX11_114 hS.1 rfl mset_0 ?_
    generalize ezh2 : up _ _ _ = zh2
    have zzmod_zh2 := MdS.pf ezh2 hS
    have zzmob_zh2 := MoB.mv ezh2 (by simp) hB
    have zzmox_zh2 := MoX.mv ezh2 (by simp) hX
    refine j_aload_n hc dX11_worth_23 rfl ?_
    refine j_get hc dX11_worth_24 fX11_114 zzmod_zh2.1 rfl ?_
    refine j_iconst hc dX11_worth_27 ?_
    rw [show fu s 0 0 0 = 0 from rfl]
    refine j_icmp_ne (tgt := 35) hc dX11_worth_28 (by decide) ⟨by omega, by omega⟩ ⟨by omega, by omega⟩ (fun zc3 => ?_) (fun zc3 => ?_)
    · obtain ⟨⟨pf1, zP1⟩, -⟩ := id zzmob_zh2
      refine j_aload_n hc dX11_worth_35 rfl ?_
      refine j_iload_n hc dX11_worth_36 rfl ?_
      refine j_iload_n hc dX11_worth_37 rfl ?_
      refine j_iload_n hc dX11_worth_38 rfl ?_
      refine j_iload hc dX11_worth_39 rfl ?_
      refine j_iload hc dX11_worth_41 rfl ?_
      refine j_iload hc dX11_worth_43 rfl ?_
      refine j_callV (d' := d - 1) hc dX11_worth_45 vX11_254 zzmod_zh2.1 (ev_X11_worthOf (by omega) zw1.1 (by omega) hia hit hin hip him zr1 zr2 zzmod_zh2 zP1) rfl (by omega) (by omega) (by omega) rfl rfl (Nat.le_of_ble_eq_true rfl) (retE fun zv45 zq45 zp45 => ?_)
      obtain ⟨zv1, zpf1, zF1⟩ := zp45
      subst zv1
      have zm1 := MdS.fr (fun z hz => zF1 z (fun y => nDp hz (by rw [y]; decide))) zzmod_zh2
      have zb1 := MoB.pile zpf1 zF1 zzmob_zh2
      have zx1 := MoX.fr (zF1.mono fun z zz => Or.inr (by rw [zz]; decide)) zzmox_zh2
      exact j_iret hc he dX11_worth_48 rfl (by omega) (by omega) ⟨_, rfl, by unfold aWorth; rw [if_pos (zw1)]; rw [woS_wv zr2 hia hit hin hip him], by unfold tWorth; rw [if_pos (zw1)]; exact ⟨_, _, zm1, MoR.th hR, zb1, zx1, hK⟩, Fr.tr ((by rw [← ezh2]; exact (Fr.rf _ _).push (by first | exact Or.inl rfl | exact Or.inr (by decide)))) (zF1.mono fun z zz => isTb_mo (Or.inr (by rw [zz]; decide)))⟩
    · exact absurd zc3 (by decide)
set_option maxRecDepth 100000 in
set_option maxHeartbeats 4000000 in
theorem ev_X11_ran_a {k : WC} {d : Nat} {h : AH} {S : BaS} {th : Int} {t i x : Int} (hd : 8 ≤ d) (hMo : ModAt h S th) (hit : inI t) (hii : inI i) (hix : inI x) : Ev k d mdX11_ran h [vR (70, 0), vI t, vI i, vI x] 0 0 (pe fun v h' => v = vI (aRan S t i x) ∧ ModAt h' S (tRan S t i x) ∧ Fr isMo h h') := by
  obtain ⟨s, A, hS, hR, hB, hX, hK⟩ := id hMo
  obtain ⟨m0, m2, m22, m27, m44, m45, m46, mTp, mLd, mRu, mRw, mFr⟩ := id hR
  obtain ⟨⟨kTa, kTb⟩, ⟨kL0, kL1⟩, ⟨kR0, kR1⟩, kLd, kRu, kRw, ⟨kT0, kT1⟩, kS0, kS1⟩ := id hK
  obtain ⟨-, -, ⟨f43, z43, zrn⟩, -⟩ := id hX
  refine Ev.mk (by decide +kernel) [_, _, _, _] rfl (Nat.le_of_ble_eq_true rfl) (fun w hc he => ?_)
  refine j_aload_n hc dX11_ran_0 rfl ?_
  refine j_iload_n hc dX11_ran_1 rfl ?_
  refine j_iconst hc dX11_ran_2 ?_
  refine j_aload_n hc dX11_ran_3 rfl ?_
  refine j_get hc dX11_ran_4 fX11_383 hS.1 rfl ?_
  rw [m44]
  refine j_iconst hc dX11_ran_7 ?_
  refine j_isub hc dX11_ran_8 ?_
  refine j_callS (d' := d - 1) hc dX11_ran_9 sX11_145 (ev_X11_in (by omega) hit ⟨by omega, by omega⟩ ⟨by omega, by omega⟩) rfl (by omega) (by omega) (by omega) rfl rfl (Nat.le_of_ble_eq_true rfl) (ret1 ?_)
  refine j_if_eq (b := 0) (tgt := 43) hc dX11_ran_12 (by decide) (by split <;> exact ⟨by omega, by omega⟩) (fun zc1 => ?_) (fun zc1 => ?_)
  · have zw5 := one_neg zc1
    refine j_iconst hc dX11_ran_43 ?_
    refine j_put  hc dX11_ran_44 pX11_114 hS.1 rfl mset_0 ?_
    generalize ezh1 : up _ _ _ = zh1
    have zzmod_zh1 := MdS.pf ezh1 hS
    have zzmob_zh1 := MoB.mv ezh1 (by simp) hB
    have zzmox_zh1 := MoX.mv ezh1 (by simp) hX
    have zM43_zh1 := (congrFun ezh1 _).symm.trans ((up_ne (by simp)).trans z43)
    refine j_aload_n hc dX11_ran_47 rfl ?_
    refine j_get hc dX11_ran_48 fX11_114 zzmod_zh1.1 rfl ?_
    refine j_iconst hc dX11_ran_51 ?_
    rw [show fu s 0 1 0 = 1 from rfl]
    refine j_icmp_ne (tgt := 59) hc dX11_ran_52 (by decide) ⟨by omega, by omega⟩ ⟨by omega, by omega⟩ (fun zc2 => ?_) (fun zc2 => ?_)
    · exact absurd rfl zc2
    · refine j_iconst hc dX11_ran_55 ?_
      refine j_goto (tgt := 75) hc dX11_ran_56 (by decide) ?_
      exact j_iret hc he dX11_ran_75 rfl (by omega) (by omega) ⟨_, rfl, by unfold aRan; rw [if_neg (by omega)], by unfold tRan; rw [if_neg (by omega)]; exact ⟨_, _, zzmod_zh1, MoR.th hR, zzmob_zh1, zzmox_zh1, hK⟩, (by rw [← ezh1]; exact (Fr.rf _ _).push (by first | exact Or.inl rfl | exact Or.inr (by decide)))⟩
  · have zw1 := one_pos zc1
    refine j_iload_n hc dX11_ran_15 rfl ?_
    refine j_iconst hc dX11_ran_16 ?_
    refine j_aload_n hc dX11_ran_17 rfl ?_
    refine j_get hc dX11_ran_18 fX11_386 hS.1 rfl ?_
    rw [m45]
    refine j_iconst hc dX11_ran_21 ?_
    refine j_isub hc dX11_ran_22 ?_
    refine j_callS (d' := d - 1) hc dX11_ran_23 sX11_145 (ev_X11_in (by omega) hii ⟨by omega, by omega⟩ ⟨by omega, by omega⟩) rfl (by omega) (by omega) (by omega) rfl rfl (Nat.le_of_ble_eq_true rfl) (ret1 ?_)
    refine j_if_eq (b := 0) (tgt := 43) hc dX11_ran_26 (by decide) (by split <;> exact ⟨by omega, by omega⟩) (fun zc3 => ?_) (fun zc3 => ?_)
    · have zw5 := one_neg zc3
      refine j_iconst hc dX11_ran_43 ?_
      refine j_put  hc dX11_ran_44 pX11_114 hS.1 rfl mset_0 ?_
      generalize ezh2 : up _ _ _ = zh2
      have zzmod_zh2 := MdS.pf ezh2 hS
      have zzmob_zh2 := MoB.mv ezh2 (by simp) hB
      have zzmox_zh2 := MoX.mv ezh2 (by simp) hX
      have zM43_zh2 := (congrFun ezh2 _).symm.trans ((up_ne (by simp)).trans z43)
      refine j_aload_n hc dX11_ran_47 rfl ?_
      refine j_get hc dX11_ran_48 fX11_114 zzmod_zh2.1 rfl ?_
      refine j_iconst hc dX11_ran_51 ?_
      rw [show fu s 0 1 0 = 1 from rfl]
      refine j_icmp_ne (tgt := 59) hc dX11_ran_52 (by decide) ⟨by omega, by omega⟩ ⟨by omega, by omega⟩ (fun zc4 => ?_) (fun zc4 => ?_)
      · exact absurd rfl zc4
      · refine j_iconst hc dX11_ran_55 ?_
        refine j_goto (tgt := 75) hc dX11_ran_56 (by decide) ?_
        exact j_iret hc he dX11_ran_75 rfl (by omega) (by omega) ⟨_, rfl, by unfold aRan; rw [if_neg (by omega)], by unfold tRan; rw [if_neg (by omega)]; exact ⟨_, _, zzmod_zh2, MoR.th hR, zzmob_zh2, zzmox_zh2, hK⟩, (by rw [← ezh2]; exact (Fr.rf _ _).push (by first | exact Or.inl rfl | exact Or.inr (by decide)))⟩
    · have zw2 := one_pos zc3
      refine j_iload_n hc dX11_ran_29 rfl ?_
      refine j_iconst hc dX11_ran_30 ?_
      refine j_bipush hc dX11_ran_31 (by decide) ?_
      refine j_callS (d' := d - 1) hc dX11_ran_33 sX11_145 (ev_X11_in (by omega) hix ⟨by omega, by omega⟩ ⟨by omega, by omega⟩) rfl (by omega) (by omega) (by omega) rfl rfl (Nat.le_of_ble_eq_true rfl) (ret1 ?_)
      refine j_if_eq (b := 0) (tgt := 43) hc dX11_ran_36 (by decide) (by split <;> exact ⟨by omega, by omega⟩) (fun zc5 => ?_) (fun zc5 => ?_)
      · have zw5 := one_neg zc5
        refine j_iconst hc dX11_ran_43 ?_
        refine j_put  hc dX11_ran_44 pX11_114 hS.1 rfl mset_0 ?_
        generalize ezh3 : up _ _ _ = zh3
        have zzmod_zh3 := MdS.pf ezh3 hS
        have zzmob_zh3 := MoB.mv ezh3 (by simp) hB
        have zzmox_zh3 := MoX.mv ezh3 (by simp) hX
        have zM43_zh3 := (congrFun ezh3 _).symm.trans ((up_ne (by simp)).trans z43)
        refine j_aload_n hc dX11_ran_47 rfl ?_
        refine j_get hc dX11_ran_48 fX11_114 zzmod_zh3.1 rfl ?_
        refine j_iconst hc dX11_ran_51 ?_
        rw [show fu s 0 1 0 = 1 from rfl]
        refine j_icmp_ne (tgt := 59) hc dX11_ran_52 (by decide) ⟨by omega, by omega⟩ ⟨by omega, by omega⟩ (fun zc6 => ?_) (fun zc6 => ?_)
        · exact absurd rfl zc6
        · refine j_iconst hc dX11_ran_55 ?_
          refine j_goto (tgt := 75) hc dX11_ran_56 (by decide) ?_
          exact j_iret hc he dX11_ran_75 rfl (by omega) (by omega) ⟨_, rfl, by unfold aRan; rw [if_neg (by omega)], by unfold tRan; rw [if_neg (by omega)]; exact ⟨_, _, zzmod_zh3, MoR.th hR, zzmob_zh3, zzmox_zh3, hK⟩, (by rw [← ezh3]; exact (Fr.rf _ _).push (by first | exact Or.inl rfl | exact Or.inr (by decide)))⟩
      · have zw3 := one_pos zc5
        refine j_iconst hc dX11_ran_39 ?_
        refine j_goto (tgt := 44) hc dX11_ran_40 (by decide) ?_
        refine j_put  hc dX11_ran_44 pX11_114 hS.1 rfl mset_0 ?_
        generalize ezh4 : up _ _ _ = zh4
        have zzmod_zh4 := MdS.pf ezh4 hS
        have zzmob_zh4 := MoB.mv ezh4 (by simp) hB
        have zzmox_zh4 := MoX.mv ezh4 (by simp) hX
        have zM43_zh4 := (congrFun ezh4 _).symm.trans ((up_ne (by simp)).trans z43)
        refine j_aload_n hc dX11_ran_47 rfl ?_
        refine j_get hc dX11_ran_48 fX11_114 zzmod_zh4.1 rfl ?_
        refine j_iconst hc dX11_ran_51 ?_
        rw [show fu s 0 0 0 = 0 from rfl]
        refine j_icmp_ne (tgt := 59) hc dX11_ran_52 (by decide) ⟨by omega, by omega⟩ ⟨by omega, by omega⟩ (fun zc7 => ?_) (fun zc7 => ?_)
        · refine j_aload_n hc dX11_ran_59 rfl ?_
          refine j_get hc dX11_ran_60 fX11_108 zzmod_zh4.1 rfl ?_
          refine j_bipush hc dX11_ran_63 (by decide) ?_
          refine j_bipush hc dX11_ran_65 (by decide) ?_
          refine j_iload_n hc dX11_ran_67 rfl ?_
          refine j_imul hc dX11_ran_68 ?_
          refine j_iload_n hc dX11_ran_69 rfl ?_
          refine j_iadd hc dX11_ran_70 ?_
          refine j_imul hc dX11_ran_71 ?_
          refine j_iload_n hc dX11_ran_72 rfl ?_
          refine j_iadd hc dX11_ran_73 ?_
          refine j_iald hc dX11_ran_74 zM43_zh4 (by omega) (by omega) ?_
          rw [zrn t i x (by omega) (by omega) (by omega) (by omega) (by omega) (by omega)]
          exact j_iret hc he dX11_ran_75 rfl (by omega) (by omega) ⟨_, rfl, by unfold aRan; rw [if_pos (⟨by omega, by omega, by omega⟩)], by unfold tRan; rw [if_pos (⟨by omega, by omega, by omega⟩)]; exact ⟨_, _, zzmod_zh4, MoR.th hR, zzmob_zh4, zzmox_zh4, hK⟩, (by rw [← ezh4]; exact (Fr.rf _ _).push (by first | exact Or.inl rfl | exact Or.inr (by decide)))⟩
        · exact absurd zc7 (by decide)
