/-! ===== two towns ===== -/
set_option maxRecDepth 100000 in
set_option maxHeartbeats 4000000 in
theorem lp_X7_carry {k : WC} {d : Nat} {w : MC} {h : AH} {l l2 : Int} {D D2 : LaS} {E E2 : LaY} {pl pl2 : Int → Option Nm} {i i2 sr sr2 cs cs2 : Int} {wf wf2 : Option Nm} {gn gn2 rn rn2 : Nm} {t t2 : Int} {am ke st pd fb am2 ke2 st2 pd2 fb2 : Int} {ro : Int} {T0 : Int × Int × Int} (hd : 3 ≤ d) (hD : LOK D) (hD2 : LOK D2) (hne : t ≠ t2) (hro0 : 0 ≤ ro) (hro1 : ro ≤ 99) (hc : Cx w k d 0 0 mdX7_carry) (he : Ends w 0 0 (pe fun v h' => v = vI (caN D D2 ro T0.1.toNat T0).2.2 ∧ h' (19, t) = some (oO 8 (twF i am ke (caN D D2 ro T0.1.toNat T0).1 st pd rn fb)) ∧ h' (19, t2) = some (oO 8 (twF i2 am2 ke2 (caN D D2 ro T0.1.toNat T0).2.1 st2 pd2 rn2 fb2)) ∧ Fr (fun z => z = (19, t) ∨ z = (19, t2)) h h')) : ∀ (zm : Nat) (b b2 c : Int) (h' : AH), b.toNat = zm → 0 ≤ b → b ≤ 200 → 0 ≤ b2 → b + b2 ≤ 400 → LandAt h' l D E pl → LandAt h' l2 D2 E2 pl2 → h' (50, i) = some (oO 2 (pF i l sr cs wf gn)) → h' (50, i2) = some (oO 2 (pF i2 l2 sr2 cs2 wf2 gn2)) → h' (19, t) = some (oO 8 (twF i am ke b st pd rn fb)) → h' (19, t2) = some (oO 8 (twF i2 am2 ke2 b2 st2 pd2 rn2 fb2)) → Fr (fun z => z = (19, t) ∨ z = (19, t2)) h h' → caN D D2 ro b.toNat (b, b2, c) = caN D D2 ro T0.1.toNat T0 → J w 0 0 8 [some (vR (19, t)), some (vR (19, t2)), some (vI ro), some (vI c), some (vI b)] [] h' := by
  intro zm
  induction zm using Nat.strongRecOn with
  | _ zm ih =>
    intro b b2 c h' hm hq0 hq1 hb0 hb1 hL hL2 zp50 zq50 zT zT2 hfr hgb
    have zpr := prS_lo hD (b - 1)
    have zpr2 := prS_lo hD2 b2
    refine j_iload hc dX7_carry_8 rfl ?_
    refine j_if_le (b := 0) (tgt := 58) hc dX7_carry_10 (by decide) ⟨by omega, by omega⟩ (fun zc1 => ?_) (fun zc1 => ?_)
    · refine j_iload_n hc dX7_carry_58 rfl ?_
      exact j_iret hc he dX7_carry_59 rfl (by omega) (by omega) (by
        have zend : caN D D2 ro b.toNat (b, b2, c) = (b, b2, c) := by
          cases zc : b.toNat with
          | zero => rfl
          | succ m =>
            simp only [caN]
            rw [if_neg (by omega)]
        rw [← hgb, zend]
        exact ⟨_, rfl, rfl, zT, zT2, hfr⟩)
    · refine j_aload_n hc dX7_carry_13 rfl ?_
      refine j_callV (d' := d - 1) hc dX7_carry_14 vX7_68 zT2 (ev_X9_priceNow (by omega) hL2 hD2 zq50 zT2 ⟨by omega, by omega⟩) rfl (by omega) (by omega) (by omega) rfl rfl (Nat.le_of_ble_eq_true rfl) (ret1 ?_)
      refine j_aload_n hc dX7_carry_17 rfl ?_
      refine j_callV (d' := d - 1) hc dX7_carry_18 vX7_72 zT (ev_X9_priceWithOneFewer (by omega) hL hD zp50 zT ⟨by omega, by omega⟩) rfl (by omega) (by omega) (by omega) rfl rfl (Nat.le_of_ble_eq_true rfl) (ret1 ?_)
      refine j_iload_n hc dX7_carry_21 rfl ?_
      refine j_iadd hc dX7_carry_22 ?_
      refine j_icmp_gt (tgt := 29) hc dX7_carry_23 (by decide) ⟨by omega, by omega⟩ ⟨by omega, by omega⟩ (fun zc2 => ?_) (fun zc2 => ?_)
      · refine j_aload_n hc dX7_carry_29 rfl ?_
        refine j_dup hc dX7_carry_30 rfl ?_
        refine j_get hc dX7_carry_31 fX7_65 zT rfl ?_
        refine j_iconst hc dX7_carry_34 ?_
        refine j_isub hc dX7_carry_35 ?_
        refine j_put (fs' := [_, _, _, _, _, _, _, _]) hc dX7_carry_36 pX7_65 zT rfl rfl ?_
        generalize ezh1 : up _ _ _ = zh1
        have zzland_zh1 := LandAt.mv ezh1 (by simp) hL
        have zzland2_zh1 := LandAt.mv ezh1 (by simp) hL2
        have zP_zh1 := (congrFun ezh1 _).symm.trans ((up_ne (by simp)).trans zp50)
        have zP_2_zh1 := (congrFun ezh1 _).symm.trans ((up_ne (by simp)).trans zq50)
        have zT_zh1 := (congrFun ezh1 _).symm.trans (up_same _ _ _)
        have zT_2_zh1 := (congrFun ezh1 _).symm.trans ((up_ne (by simp; omega)).trans zT2)
        refine j_aload_n hc dX7_carry_39 rfl ?_
        refine j_dup hc dX7_carry_40 rfl ?_
        refine j_get hc dX7_carry_41 fX7_65 zT_2_zh1 rfl ?_
        refine j_iconst hc dX7_carry_44 ?_
        refine j_iadd hc dX7_carry_45 ?_
        refine j_put (fs' := [_, _, _, _, _, _, _, _]) hc dX7_carry_46 pX7_65 zT_2_zh1 rfl rfl ?_
        generalize ezh2 : up _ _ _ = zh2
        have zzland_zh2 := LandAt.mv ezh2 (by simp) zzland_zh1
        have zzland2_zh2 := LandAt.mv ezh2 (by simp) zzland2_zh1
        have zP_zh2 := (congrFun ezh2 _).symm.trans ((up_ne (by simp)).trans zP_zh1)
        have zP_2_zh2 := (congrFun ezh2 _).symm.trans ((up_ne (by simp)).trans zP_2_zh1)
        have zT_zh2 := (congrFun ezh2 _).symm.trans ((up_ne (by simp; omega)).trans zT_zh1)
        have zT_2_zh2 := (congrFun ezh2 _).symm.trans (up_same _ _ _)
        refine j_iinc (L' := [_, _, _, _, _]) hc dX7_carry_49 rfl (Nat.le_of_ble_eq_true rfl) rfl ?_
        refine j_iinc (L' := [_, _, _, _, _]) hc dX7_carry_52 rfl (Nat.le_of_ble_eq_true rfl) rfl ?_
        refine j_goto (tgt := 8) hc dX7_carry_55 (by decide) ?_
        have zg := hgb
        rw [show b.toNat = (b - 1).toNat + 1 by omega] at zg
        simp only [caN] at zg
        rw [if_pos ⟨by omega, by omega⟩] at zg
        exact ih _ (by omega) (b - 1) _ _ _ rfl (by omega) (by omega) (by omega) (by omega) zzland_zh2 zzland2_zh2 zP_zh2 zP_2_zh2 zT_zh2 zT_2_zh2 (by rw [← ezh2, ← ezh1]; exact (hfr.push (Or.inl rfl)).push (Or.inr rfl)) zg
      · refine j_goto (tgt := 58) hc dX7_carry_26 (by decide) ?_
        refine j_iload_n hc dX7_carry_58 rfl ?_
        exact j_iret hc he dX7_carry_59 rfl (by omega) (by omega) (by
          have zend : caN D D2 ro b.toNat (b, b2, c) = (b, b2, c) := by
            cases zc : b.toNat with
            | zero => rfl
            | succ m =>
              simp only [caN]
              rw [if_neg (by omega)]
          rw [← hgb, zend]
          exact ⟨_, rfl, rfl, zT, zT2, hfr⟩)
set_option maxRecDepth 100000 in
set_option maxHeartbeats 4000000 in
theorem ev_X7_carry {k : WC} {d : Nat} {h : AH} {l l2 : Int} {D D2 : LaS} {E E2 : LaY} {pl pl2 : Int → Option Nm} {i i2 sr sr2 cs cs2 : Int} {wf wf2 : Option Nm} {gn gn2 rn rn2 : Nm} {t t2 : Int} {am ke st pd fb am2 ke2 st2 pd2 fb2 : Int} {ro b b2 : Int} (hd : 3 ≤ d) (hL : LandAt h l D E pl) (hL2 : LandAt h l2 D2 E2 pl2) (hD : LOK D) (hD2 : LOK D2) (zp50 : h (50, i) = some (oO 2 (pF i l sr cs wf gn))) (zq50 : h (50, i2) = some (oO 2 (pF i2 l2 sr2 cs2 wf2 gn2))) (hne : t ≠ t2) (hro0 : 0 ≤ ro) (hro1 : ro ≤ 99) (zT : h (19, t) = some (oO 8 (twF i am ke b st pd rn fb))) (zT2 : h (19, t2) = some (oO 8 (twF i2 am2 ke2 b2 st2 pd2 rn2 fb2))) (hb0 : 0 ≤ b) (hb1 : b ≤ 200) (hb20 : 0 ≤ b2) (hb21 : b + b2 ≤ 400) : Ev k d mdX7_carry h [vR (19, t), vR (19, t2), vI ro] 0 0 (pe fun v h' => v = vI (caN D D2 ro b.toNat (b, b2, 0)).2.2 ∧ h' (19, t) = some (oO 8 (twF i am ke (caN D D2 ro b.toNat (b, b2, 0)).1 st pd rn fb)) ∧ h' (19, t2) = some (oO 8 (twF i2 am2 ke2 (caN D D2 ro b.toNat (b, b2, 0)).2.1 st2 pd2 rn2 fb2)) ∧ Fr (fun z => z = (19, t) ∨ z = (19, t2)) h h') := by
  refine Ev.mk (by decide +kernel) [_, _, _, _, _] rfl (Nat.le_of_ble_eq_true rfl) (fun w hc he => ?_)
  refine j_iconst hc dX7_carry_0 ?_
  refine j_istore_n (L' := [_, _, _, _, _]) hc dX7_carry_1 (Nat.le_of_ble_eq_true rfl) rfl ?_
  refine j_aload_n hc dX7_carry_2 rfl ?_
  refine j_get hc dX7_carry_3 fX7_65 zT rfl ?_
  refine j_istore (L' := [_, _, _, _, _]) hc dX7_carry_6 (Nat.le_of_ble_eq_true rfl) rfl ?_
  exact lp_X7_carry (T0 := (b, b2, 0)) hd hD hD2 hne hro0 hro1 hc he _ b b2 0 h rfl hb0 hb1 hb20 hb21 hL hL2 zp50 zq50 zT zT2 (Fr.rf _ _) rfl
abbrev TyS : Type := (Int → Int) × Int × Int × Int
/-- two towns: carried, brought to the one, brought to the other -/
def caS (D D2 : LaS) (ro b b2 : Int) : Int × Int × Int :=
  ((caN D D2 ro b.toNat (b, b2, 0)).2.2 - (caN D2 D ro (caN D D2 ro b.toNat (b, b2, 0)).2.1.toNat ((caN D D2 ro b.toNat (b, b2, 0)).2.1, (caN D D2 ro b.toNat (b, b2, 0)).1, 0)).2.2,
   (caN D2 D ro (caN D D2 ro b.toNat (b, b2, 0)).2.1.toNat ((caN D D2 ro b.toNat (b, b2, 0)).2.1, (caN D D2 ro b.toNat (b, b2, 0)).1, 0)).2.1,
   (caN D2 D ro (caN D D2 ro b.toNat (b, b2, 0)).2.1.toNat ((caN D D2 ro b.toNat (b, b2, 0)).2.1, (caN D D2 ro b.toNat (b, b2, 0)).1, 0)).1)
theorem caS_b {D D2 : LaS} {ro b b2 : Int} (h0 : 0 ≤ b) (h1 : b ≤ 40) (h2 : 0 ≤ b2) (h3 : b2 ≤ 40) : 0 ≤ (caS D D2 ro b b2).2.1 ∧ 0 ≤ (caS D D2 ro b b2).2.2 ∧ (caS D D2 ro b b2).2.1 ≤ 80 ∧ (caS D D2 ro b b2).2.2 ≤ 80 := by
  have q1 := caN_b (D := D) (D' := D2) (road := ro) b.toNat (b, b2, 0) h0
  unfold caS
  generalize caN D D2 ro b.toNat (b, b2, 0) = u at q1 ⊢
  simp only at q1
  have q2 := caN_b (D := D2) (D' := D) (road := ro) u.2.1.toNat (u.2.1, u.1, 0) (by show 0 ≤ u.2.1; omega)
  generalize caN D2 D ro u.2.1.toNat (u.2.1, u.1, 0) = v at q2 ⊢
  simp only at q2 ⊢
  omega
def ty1 (D D2 : LaS) (sr sr2 : Int) (kq kq2 : Int → Int → Int) (rf rf2 : Int → Int) (ro i : Int) (q : TyS) : TyS :=
  (wrS (wrS q.1 (plS 0 i) (q.2.2.1 + rf i) (kq q.2.1 (q.2.2.1 + rf i)) (eaS D sr (caS D D2 ro (q.2.2.1 + rf i - kq q.2.1 (q.2.2.1 + rf i)) (q.2.2.2 + rf2 i - kq2 q.2.1 (q.2.2.2 + rf2 i))).2.1) (poS D sr (caS D D2 ro (q.2.2.1 + rf i - kq q.2.1 (q.2.2.1 + rf i)) (q.2.2.2 + rf2 i - kq2 q.2.1 (q.2.2.2 + rf2 i))).2.1) (lNe D - eaS D sr (caS D D2 ro (q.2.2.1 + rf i - kq q.2.1 (q.2.2.1 + rf i)) (q.2.2.2 + rf2 i - kq2 q.2.1 (q.2.2.2 + rf2 i))).2.1) 0 (caS D D2 ro (q.2.2.1 + rf i - kq q.2.1 (q.2.2.1 + rf i)) (q.2.2.2 + rf2 i - kq2 q.2.1 (q.2.2.2 + rf2 i))).1)
     (plS 1 i) (q.2.2.2 + rf2 i) (kq2 q.2.1 (q.2.2.2 + rf2 i)) (eaS D2 sr2 (caS D D2 ro (q.2.2.1 + rf i - kq q.2.1 (q.2.2.1 + rf i)) (q.2.2.2 + rf2 i - kq2 q.2.1 (q.2.2.2 + rf2 i))).2.2) (poS D2 sr2 (caS D D2 ro (q.2.2.1 + rf i - kq q.2.1 (q.2.2.1 + rf i)) (q.2.2.2 + rf2 i - kq2 q.2.1 (q.2.2.2 + rf2 i))).2.2) (lNe D2 - eaS D2 sr2 (caS D D2 ro (q.2.2.1 + rf i - kq q.2.1 (q.2.2.1 + rf i)) (q.2.2.2 + rf2 i - kq2 q.2.1 (q.2.2.2 + rf2 i))).2.2) 0 (-(caS D D2 ro (q.2.2.1 + rf i - kq q.2.1 (q.2.2.1 + rf i)) (q.2.2.2 + rf2 i - kq2 q.2.1 (q.2.2.2 + rf2 i))).1),
   nxS D q.2.1, leS D (kq q.2.1 (q.2.2.1 + rf i)), leS D2 (kq2 q.2.1 (q.2.2.2 + rf2 i)))
def tyN (D D2 : LaS) (sr sr2 : Int) (kq kq2 : Int → Int → Int) (rf rf2 : Int → Int) (ro : Int) (f0 : Int → Int) (b0 b02 : Int) : Nat → TyS
  | 0 => (f0, 0, b0, b02)
  | i + 1 => ty1 D D2 sr sr2 kq kq2 rf rf2 ro i (tyN D D2 sr sr2 kq kq2 rf rf2 ro f0 b0 b02 i)
theorem tyN_b {D D2 : LaS} (hD : LOK D) (hD2 : LOK D2) (hse : lSe D = lSe D2) {sr sr2 : Int} {kq kq2 : Int → Int → Int} {rf rf2 : Int → Int} {ro : Int} {f0 : Int → Int} {b0 b02 : Int} (hk : kqOK D kq) (hk2 : kqOK D2 kq2) (hb0 : 0 ≤ b0) (hb1 : b0 ≤ 20) (hb20 : 0 ≤ b02) (hb21 : b02 ≤ 20) (hr : ∀ i : Int, 0 ≤ i → i < 40 → 0 ≤ rf i ∧ rf i ≤ 20) (hr2 : ∀ i : Int, 0 ≤ i → i < 40 → 0 ≤ rf2 i ∧ rf2 i ≤ 20) : ∀ i : Nat, i ≤ 40 → 0 ≤ (tyN D D2 sr sr2 kq kq2 rf rf2 ro f0 b0 b02 i).2.1 ∧ (tyN D D2 sr sr2 kq kq2 rf rf2 ro f0 b0 b02 i).2.1 < lSe D ∧ 0 ≤ (tyN D D2 sr sr2 kq kq2 rf rf2 ro f0 b0 b02 i).2.2.1 ∧ (tyN D D2 sr sr2 kq kq2 rf rf2 ro f0 b0 b02 i).2.2.1 ≤ 20 ∧ 0 ≤ (tyN D D2 sr sr2 kq kq2 rf rf2 ro f0 b0 b02 i).2.2.2 ∧ (tyN D D2 sr sr2 kq kq2 rf rf2 ro f0 b0 b02 i).2.2.2 ≤ 20
  | 0, _ => ⟨Int.le_refl 0, by have := hD.1; show (0 : Int) < _; omega, hb0, hb1, hb20, hb21⟩
  | i + 1, hi => by
    obtain ⟨h1, h2, h3, h4, h5, h6⟩ := tyN_b hD hD2 hse (sr := sr) (sr2 := sr2) (ro := ro) (f0 := f0) hk hk2 hb0 hb1 hb20 hb21 hr hr2 i (by omega)
    have h7 := hr i (by omega) (by omega)
    have h7' := hr2 i (by omega) (by omega)
    simp only [tyN, ty1]
    generalize tyN D D2 sr sr2 kq kq2 rf rf2 ro f0 b0 b02 i = q at h1 h2 h3 h4 h5 h6 ⊢
    have h8 := hk q.2.1 (q.2.2.1 + rf i) h1 h2 (by omega) (by omega)
    have h8' := hk2 q.2.1 (q.2.2.2 + rf2 i) h1 (by omega) (by omega) (by omega)
    have h9 := leS_b hD h8.1
    have h9' := leS_b hD2 h8'.1
    have h10 := nxS_b hD h1
    exact ⟨h10.1, h10.2, h9.1, by omega, h9'.1, by omega⟩
set_option maxRecDepth 100000 in
set_option maxHeartbeats 4000000 in
theorem lp_X7_tellOfTwo {k : WC} {d : Nat} {w : MC} {h : AH} {l l2 : Int} {D D2 : LaS} {E E2 : LaY} {pl pl2 : Int → Option Nm} {i i2 sr sr2 cs cs2 : Int} {wf wf2 : Option Nm} {gn gn2 rn rn2 : Nm} {t t2 : Int} {kf kf2 rf rf2 : Int → Int} {kq kq2 : Int → Int → Int} {j : Int} {N m : Nat} {f0 : Int → Int} {b0 b02 n ro : Int} (hd : 6 ≤ d) (hD : LOK D) (hD2 : LOK D2) (hse : lSe D = lSe D2) (hrn : rn.1 = 14) (hrn2 : rn2.1 = 14) (hN : 560 ≤ N) (hm40 : m ≤ 40) (hkq : ∀ s a : Int, 0 ≤ s → s < lSe D → 0 ≤ a → a ≤ 40 → kf (ceS n s + a) = kq s a) (hkb : kqOK D kq) (hrf : ∀ x : Int, 0 ≤ x → x < 40 → 0 ≤ rf x ∧ rf x ≤ 20) (hkq2 : ∀ s a : Int, 0 ≤ s → s < lSe D2 → 0 ≤ a → a ≤ 40 → kf2 (ceS n s + a) = kq2 s a) (hkb2 : kqOK D2 kq2) (hrf2 : ∀ x : Int, 0 ≤ x → x < 40 → 0 ≤ rf2 x ∧ rf2 x ≤ 20) (hb0 : 0 ≤ b0) (hb1 : b0 ≤ 20) (hb20 : 0 ≤ b02) (hb21 : b02 ≤ 20) (hn1 : 1 ≤ n) (hn : n ≤ 12) (hsr0 : 0 ≤ sr) (hsr1 : sr ≤ 4) (hsr20 : 0 ≤ sr2) (hsr21 : sr2 ≤ 4) (hne : t ≠ t2) (hro0 : 0 ≤ ro) (hro1 : ro ≤ 99)  (hc : Cx w k d 0 0 mdX7_tellOfTwo) (he : Ends w 0 0 (pn fun h' => h' (20, j) = some (oO 6 [vR (21, j), vI 2, vI m, vI 0]) ∧ h' (21, j) = some (oI N (tyN D D2 sr sr2 kq kq2 rf rf2 ro f0 b0 b02 m).1) ∧ (∃ am ke br st pd fb, h' (19, t) = some (oO 8 (twF i am ke br st pd rn fb))) ∧ (∃ am ke br st pd fb, h' (19, t2) = some (oO 8 (twF i2 am ke br st pd rn2 fb))) ∧ Fr (fun z => (z = (19, t) ∨ z = (19, t2)) ∨ z = (20, j) ∨ z = (21, j)) h h')) : ∀ (zm : Nat) (x : Nat) (h' : AH) (am ke br am2 ke2 br2 : Int) (z8 : Option AV), m - x = zm → x ≤ m → LandAt h' l D E pl → LandAt h' l2 D2 E2 pl2 → h' (50, i) = some (oO 2 (pF i l sr cs wf gn)) → h' (50, i2) = some (oO 2 (pF i2 l2 sr2 cs2 wf2 gn2)) → h' (51, i) = some (oI ((lSe D).toNat * 492) kf) → h' (51, i2) = some (oI ((lSe D2).toNat * 492) kf2) → h' rn = some (oI 40 rf) → h' rn2 = some (oI 40 rf2) → h' (19, t) = some (oO 8 (twF i am ke br 0 0 rn (tyN D D2 sr sr2 kq kq2 rf rf2 ro f0 b0 b02 x).2.2.1)) → h' (19, t2) = some (oO 8 (twF i2 am2 ke2 br2 0 0 rn2 (tyN D D2 sr sr2 kq kq2 rf rf2 ro f0 b0 b02 x).2.2.2)) → h' (20, j) = some (oO 6 [vR (21, j), vI 2, vI m, vI 0]) → h' (21, j) = some (oI N (tyN D D2 sr sr2 kq kq2 rf rf2 ro f0 b0 b02 x).1) → Fr (fun z => (z = (19, t) ∨ z = (19, t2)) ∨ z = (20, j) ∨ z = (21, j)) h h' → J w 0 0 22 [some (vR (20, j)), some (vR (19, t)), some (vR (19, t2)), some (vI n), some (vI m), some (vI ro), some (vI (tyN D D2 sr sr2 kq kq2 rf rf2 ro f0 b0 b02 x).2.1), some (vI x), z8] [] h' := by
  intro zm
  induction zm using Nat.strongRecOn with
  | _ zm ih =>
    intro x h' am ke br am2 ke2 br2 z8 hm hx hL hL2 zp50 zq50 zp51 zq51 zR zR2 zT zT2 zS zS1 hfr
    obtain ⟨zq1, zq2, zq3, zq4, zq5, zq6⟩ := tyN_b hD hD2 hse (sr := sr) (sr2 := sr2) (ro := ro) (f0 := f0) hkb hkb2 hb0 hb1 hb20 hb21 hrf hrf2 x (by omega)
    have zne : rn ≠ (19, t) := fun e => by rw [e] at hrn; simp at hrn
    have zng : rn ≠ (19, t2) := fun e => by rw [e] at hrn; simp at hrn
    have znf : rn2 ≠ (19, t) := fun e => by rw [e] at hrn2; simp at hrn2
    have znh : rn2 ≠ (19, t2) := fun e => by rw [e] at hrn2; simp at hrn2
    have zni : rn ≠ (21, j) := fun e => by rw [e] at hrn; simp at hrn
    have znj : rn2 ≠ (21, j) := fun e => by rw [e] at hrn2; simp at hrn2
    have znk : rn ≠ (20, j) := fun e => by rw [e] at hrn; simp at hrn
    have znl : rn2 ≠ (20, j) := fun e => by rw [e] at hrn2; simp at hrn2
    have zpl : plS 0 x = (0 * 40 + (x : Int)) * 7 := rfl
    have zpl2 : plS 1 x = (1 * 40 + (x : Int)) * 7 := rfl
    have d2 := hD.2.1
    refine j_iload hc dX7_tellOfTwo_22 rfl ?_
    refine j_iload hc dX7_tellOfTwo_24 rfl ?_
    refine j_icmp_ge (tgt := 115) hc dX7_tellOfTwo_26 (by decide) ⟨by omega, by omega⟩ ⟨by omega, by omega⟩ (fun zc1 => ?_) (fun zc1 => ?_)
    · exact j_vret hc he dX7_tellOfTwo_115 rfl (by omega) (by omega) (by (obtain rfl : x = m := by omega); exact ⟨rfl, zS, zS1, ⟨_, _, _, _, _, _, zT⟩, ⟨_, _, _, _, _, _, zT2⟩, hfr⟩)
    · have zr := hrf x (by omega) (by omega)
      have zr2 := hrf2 x (by omega) (by omega)
      have zk := hkb _ ((tyN D D2 sr sr2 kq kq2 rf rf2 ro f0 b0 b02 x).2.2.1 + rf x) zq1 zq2 (by omega) (by omega)
      have zk2 := hkb2 _ ((tyN D D2 sr sr2 kq kq2 rf rf2 ro f0 b0 b02 x).2.2.2 + rf2 x) zq1 (by omega) (by omega) (by omega)
      have zkk := hkq _ ((tyN D D2 sr sr2 kq kq2 rf rf2 ro f0 b0 b02 x).2.2.1 + rf x) zq1 zq2 (by omega) (by omega)
      have zkk2 := hkq2 _ ((tyN D D2 sr sr2 kq kq2 rf rf2 ro f0 b0 b02 x).2.2.2 + rf2 x) zq1 (by omega) (by omega) (by omega)
      have zc1 := caN_b (D := D) (D' := D2) (road := ro) (((tyN D D2 sr sr2 kq kq2 rf rf2 ro f0 b0 b02 x).2.2.1 + rf x) - kq (tyN D D2 sr sr2 kq kq2 rf rf2 ro f0 b0 b02 x).2.1 ((tyN D D2 sr sr2 kq kq2 rf rf2 ro f0 b0 b02 x).2.2.1 + rf x)).toNat ((((tyN D D2 sr sr2 kq kq2 rf rf2 ro f0 b0 b02 x).2.2.1 + rf x) - kq (tyN D D2 sr sr2 kq kq2 rf rf2 ro f0 b0 b02 x).2.1 ((tyN D D2 sr sr2 kq kq2 rf rf2 ro f0 b0 b02 x).2.2.1 + rf x)), (((tyN D D2 sr sr2 kq kq2 rf rf2 ro f0 b0 b02 x).2.2.2 + rf2 x) - kq2 (tyN D D2 sr sr2 kq kq2 rf rf2 ro f0 b0 b02 x).2.1 ((tyN D D2 sr sr2 kq kq2 rf rf2 ro f0 b0 b02 x).2.2.2 + rf2 x)), 0) (by show 0 ≤ (((tyN D D2 sr sr2 kq kq2 rf rf2 ro f0 b0 b02 x).2.2.1 + rf x) - kq (tyN D D2 sr sr2 kq kq2 rf rf2 ro f0 b0 b02 x).2.1 ((tyN D D2 sr sr2 kq kq2 rf rf2 ro f0 b0 b02 x).2.2.1 + rf x)); omega)
      simp only at zc1
      have zcs := caS_b (D := D) (D2 := D2) (ro := ro) (b := (((tyN D D2 sr sr2 kq kq2 rf rf2 ro f0 b0 b02 x).2.2.1 + rf x) - kq (tyN D D2 sr sr2 kq kq2 rf rf2 ro f0 b0 b02 x).2.1 ((tyN D D2 sr sr2 kq kq2 rf rf2 ro f0 b0 b02 x).2.2.1 + rf x))) (b2 := (((tyN D D2 sr sr2 kq kq2 rf rf2 ro f0 b0 b02 x).2.2.2 + rf2 x) - kq2 (tyN D D2 sr sr2 kq kq2 rf rf2 ro f0 b0 b02 x).2.1 ((tyN D D2 sr sr2 kq kq2 rf rf2 ro f0 b0 b02 x).2.2.2 + rf2 x))) (by omega) (by omega) (by omega) (by omega)
      unfold caS at zcs
      simp only at zcs
      refine j_aload_n hc dX7_tellOfTwo_29 rfl ?_
      refine j_iload hc dX7_tellOfTwo_30 rfl ?_
      refine j_iload hc dX7_tellOfTwo_32 rfl ?_
      refine j_iload_n hc dX7_tellOfTwo_34 rfl ?_
      refine j_callV (d' := d - 1) hc dX7_tellOfTwo_35 vX7_22 zT (ev_X9_openSeason (by omega) hL hD zp50 zT zp51 zR hrn (by omega) (by omega) zr.1 zr.2 zq3 zq4 hn1 hn zq1 zq2 (by rw [zkk]; omega) (by rw [zkk]; omega)) rfl (by omega) (by omega) (by omega) rfl rfl (Nat.le_of_ble_eq_true rfl) (retN fun zq35 zp35 => ?_)
      obtain ⟨zT35, zF35⟩ := zp35
      rw [zkk] at zT35
      have zRW_q35 := (zF35 _ zne).trans zR
      have zRW_2_q35 := (zF35 _ znf).trans zR2
      have zzland_q35 := LandAt.fr (fun zj z0 z1 => zF35 (zj, l) (by first | (simp; done) | (simp; omega) | (rintro zz; simp at zz; omega))) hL
      have zzland2_q35 := LandAt.fr (fun zj z0 z1 => zF35 (zj, l2) (by first | (simp; done) | (simp; omega) | (rintro zz; simp at zz; omega))) hL2
      have zP_q35 := (zF35 _ (by first | (simp; done) | (simp; omega) | (rintro zz; simp at zz; omega))).trans zp50
      have zP_2_q35 := (zF35 _ (by first | (simp; done) | (simp; omega) | (rintro zz; simp at zz; omega))).trans zq50
      have zT_2_q35 := (zF35 _ (by first | (simp; done) | (simp; omega) | (rintro zz; simp at zz; omega))).trans zT2
      have zP51_q35 := (zF35 _ (by first | (simp; done) | (simp; omega) | (rintro zz; simp at zz; omega))).trans zp51
      have zP51_2_q35 := (zF35 _ (by first | (simp; done) | (simp; omega) | (rintro zz; simp at zz; omega))).trans zq51
      have zS_q35 := (zF35 _ (by first | (simp; done) | (simp; omega) | (rintro zz; simp at zz; omega))).trans zS
      have zS21_q35 := (zF35 _ (by first | (simp; done) | (simp; omega) | (rintro zz; simp at zz; omega))).trans zS1
      refine j_aload_n hc dX7_tellOfTwo_38 rfl ?_
      refine j_iload hc dX7_tellOfTwo_39 rfl ?_
      refine j_iload hc dX7_tellOfTwo_41 rfl ?_
      refine j_iload_n hc dX7_tellOfTwo_43 rfl ?_
      refine j_callV (d' := d - 1) hc dX7_tellOfTwo_44 vX7_22 zT_2_q35 (ev_X9_openSeason (by omega) zzland2_q35 hD2 zP_2_q35 zT_2_q35 zP51_2_q35 zRW_2_q35 hrn2 (by omega) (by omega) zr2.1 zr2.2 zq5 zq6 hn1 hn zq1 (by omega) (by rw [zkk2]; omega) (by rw [zkk2]; omega)) rfl (by omega) (by omega) (by omega) rfl rfl (Nat.le_of_ble_eq_true rfl) (retN fun zq44 zp44 => ?_)
      obtain ⟨zT44, zF44⟩ := zp44
      rw [zkk2] at zT44
      have zRW_q44 := (zF44 _ zng).trans zRW_q35
      have zRW_2_q44 := (zF44 _ znh).trans zRW_2_q35
      have zzland_q44 := LandAt.fr (fun zj z0 z1 => zF44 (zj, l) (by first | (simp; done) | (simp; omega) | (rintro zz; simp at zz; omega))) zzland_q35
      have zzland2_q44 := LandAt.fr (fun zj z0 z1 => zF44 (zj, l2) (by first | (simp; done) | (simp; omega) | (rintro zz; simp at zz; omega))) zzland2_q35
      have zP_q44 := (zF44 _ (by first | (simp; done) | (simp; omega) | (rintro zz; simp at zz; omega))).trans zP_q35
      have zP_2_q44 := (zF44 _ (by first | (simp; done) | (simp; omega) | (rintro zz; simp at zz; omega))).trans zP_2_q35
      have zT_q44 := (zF44 _ (by first | (simp; done) | (simp; omega) | (rintro zz; simp at zz; omega))).trans zT35
      have zP51_q44 := (zF44 _ (by first | (simp; done) | (simp; omega) | (rintro zz; simp at zz; omega))).trans zP51_q35
      have zP51_2_q44 := (zF44 _ (by first | (simp; done) | (simp; omega) | (rintro zz; simp at zz; omega))).trans zP51_2_q35
      have zS_q44 := (zF44 _ (by first | (simp; done) | (simp; omega) | (rintro zz; simp at zz; omega))).trans zS_q35
      have zS21_q44 := (zF44 _ (by first | (simp; done) | (simp; omega) | (rintro zz; simp at zz; omega))).trans zS21_q35
      refine j_aload_n hc dX7_tellOfTwo_47 rfl ?_
      refine j_aload_n hc dX7_tellOfTwo_48 rfl ?_
      refine j_iload hc dX7_tellOfTwo_49 rfl ?_
      refine j_callS (d' := d - 1) hc dX7_tellOfTwo_51 sX7_61 (ev_X7_carry (by omega) zzland_q44 zzland2_q44 hD hD2 zP_q44 zP_2_q44 hne hro0 hro1 zT_q44 zT44 (by omega) (by omega) (by omega) (by omega)) rfl (by omega) (by omega) (by omega) rfl rfl (Nat.le_of_ble_eq_true rfl) (retE fun zv51 zq51 zp51 => ?_)
      obtain ⟨zv, zT51, zU51, zF51⟩ := zp51
      subst zv
      have zRW_q51 := (zF51 _ (fun zz => by rcases zz with zz | zz; exact zne zz; exact zng zz)).trans zRW_q44
      have zRW_2_q51 := (zF51 _ (fun zz => by rcases zz with zz | zz; exact znf zz; exact znh zz)).trans zRW_2_q44
      have zzland_q51 := LandAt.fr (fun zj z0 z1 => zF51 (zj, l) (by first | (simp; done) | (simp; omega) | (rintro zz; simp at zz; omega))) zzland_q44
      have zzland2_q51 := LandAt.fr (fun zj z0 z1 => zF51 (zj, l2) (by first | (simp; done) | (simp; omega) | (rintro zz; simp at zz; omega))) zzland2_q44
      have zP_q51 := (zF51 _ (by first | (simp; done) | (simp; omega) | (rintro zz; simp at zz; omega))).trans zP_q44
      have zP_2_q51 := (zF51 _ (by first | (simp; done) | (simp; omega) | (rintro zz; simp at zz; omega))).trans zP_2_q44
      have zP51_q51 := (zF51 _ (by first | (simp; done) | (simp; omega) | (rintro zz; simp at zz; omega))).trans zP51_q44
      have zP51_2_q51 := (zF51 _ (by first | (simp; done) | (simp; omega) | (rintro zz; simp at zz; omega))).trans zP51_2_q44
      have zS_q51 := (zF51 _ (by first | (simp; done) | (simp; omega) | (rintro zz; simp at zz; omega))).trans zS_q44
      have zS21_q51 := (zF51 _ (by first | (simp; done) | (simp; omega) | (rintro zz; simp at zz; omega))).trans zS21_q44
      refine j_istore (L' := [_, _, _, _, _, _, _, _, _]) hc dX7_tellOfTwo_54 (Nat.le_of_ble_eq_true rfl) rfl ?_
      refine j_iload hc dX7_tellOfTwo_56 rfl ?_
      refine j_aload_n hc dX7_tellOfTwo_58 rfl ?_
      refine j_aload_n hc dX7_tellOfTwo_59 rfl ?_
      refine j_iload hc dX7_tellOfTwo_60 rfl ?_
      refine j_callS (d' := d - 1) hc dX7_tellOfTwo_62 sX7_61 (ev_X7_carry (by omega) zzland2_q51 zzland_q51 hD2 hD zP_2_q51 zP_q51 (Ne.symm hne) hro0 hro1 zU51 zT51 (by omega) (by omega) (by omega) (by omega)) rfl (by omega) (by omega) (by omega) rfl rfl (Nat.le_of_ble_eq_true rfl) (retE fun zv62 zq62 zp62 => ?_)
      obtain ⟨zv, zU62, zT62, zF62⟩ := zp62
      subst zv
      have zRW_q62 := (zF62 _ (fun zz => by rcases zz with zz | zz; exact zng zz; exact zne zz)).trans zRW_q51
      have zRW_2_q62 := (zF62 _ (fun zz => by rcases zz with zz | zz; exact znh zz; exact znf zz)).trans zRW_2_q51
      have zzland_q62 := LandAt.fr (fun zj z0 z1 => zF62 (zj, l) (by first | (simp; done) | (simp; omega) | (rintro zz; simp at zz; omega))) zzland_q51
      have zzland2_q62 := LandAt.fr (fun zj z0 z1 => zF62 (zj, l2) (by first | (simp; done) | (simp; omega) | (rintro zz; simp at zz; omega))) zzland2_q51
      have zP_q62 := (zF62 _ (by first | (simp; done) | (simp; omega) | (rintro zz; simp at zz; omega))).trans zP_q51
      have zP_2_q62 := (zF62 _ (by first | (simp; done) | (simp; omega) | (rintro zz; simp at zz; omega))).trans zP_2_q51
      have zP51_q62 := (zF62 _ (by first | (simp; done) | (simp; omega) | (rintro zz; simp at zz; omega))).trans zP51_q51
      have zP51_2_q62 := (zF62 _ (by first | (simp; done) | (simp; omega) | (rintro zz; simp at zz; omega))).trans zP51_2_q51
      have zS_q62 := (zF62 _ (by first | (simp; done) | (simp; omega) | (rintro zz; simp at zz; omega))).trans zS_q51
      have zS21_q62 := (zF62 _ (by first | (simp; done) | (simp; omega) | (rintro zz; simp at zz; omega))).trans zS21_q51
      refine j_isub hc dX7_tellOfTwo_65 ?_
      refine j_istore (L' := [_, _, _, _, _, _, _, _, _]) hc dX7_tellOfTwo_66 (Nat.le_of_ble_eq_true rfl) rfl ?_
      refine j_aload_n hc dX7_tellOfTwo_68 rfl ?_
      refine j_iconst hc dX7_tellOfTwo_69 ?_
      refine j_iload hc dX7_tellOfTwo_70 rfl ?_
      refine j_callS (d' := d - 1) hc dX7_tellOfTwo_72 sX7_31 (ev_X7_placeOf (by omega)) rfl (by omega) (by omega) (by omega) rfl rfl (Nat.le_of_ble_eq_true rfl) (ret1 ?_)
      refine j_aload_n hc dX7_tellOfTwo_75 rfl ?_
      refine j_iload hc dX7_tellOfTwo_76 rfl ?_
      refine j_callV (d' := d - 1) hc dX7_tellOfTwo_78 vX7_35 zS_q62 (ev_X7_write (by omega) zzland_q62 hD zP_q62 zT62 zS_q62 zS21_q62 (by omega) (by omega) ⟨by omega, by omega⟩ hsr0 hsr1) rfl (by omega) (by omega) (by omega) rfl rfl (Nat.le_of_ble_eq_true rfl) (retN fun zq78 zp78 => ?_)
      obtain ⟨zS78, zF78⟩ := zp78
      have zRW_q78 := (zF78 _ zni).trans zRW_q62
      have zRW_2_q78 := (zF78 _ znj).trans zRW_2_q62
      have zzland_q78 := LandAt.fr (fun zj z0 z1 => zF78 (zj, l) (by first | (simp; done) | (simp; omega) | (rintro zz; simp at zz; omega))) zzland_q62
      have zzland2_q78 := LandAt.fr (fun zj z0 z1 => zF78 (zj, l2) (by first | (simp; done) | (simp; omega) | (rintro zz; simp at zz; omega))) zzland2_q62
      have zP_q78 := (zF78 _ (by first | (simp; done) | (simp; omega) | (rintro zz; simp at zz; omega))).trans zP_q62
      have zP_2_q78 := (zF78 _ (by first | (simp; done) | (simp; omega) | (rintro zz; simp at zz; omega))).trans zP_2_q62
      have zT_q78 := (zF78 _ (by first | (simp; done) | (simp; omega) | (rintro zz; simp at zz; omega))).trans zT62
      have zT_2_q78 := (zF78 _ (by first | (simp; done) | (simp; omega) | (rintro zz; simp at zz; omega))).trans zU62
      have zP51_q78 := (zF78 _ (by first | (simp; done) | (simp; omega) | (rintro zz; simp at zz; omega))).trans zP51_q62
      have zP51_2_q78 := (zF78 _ (by first | (simp; done) | (simp; omega) | (rintro zz; simp at zz; omega))).trans zP51_2_q62
      have zS_q78 := (zF78 _ (by first | (simp; done) | (simp; omega) | (rintro zz; simp at zz; omega))).trans zS_q62
      refine j_aload_n hc dX7_tellOfTwo_81 rfl ?_
      refine j_iconst hc dX7_tellOfTwo_82 ?_
      refine j_iload hc dX7_tellOfTwo_83 rfl ?_
      refine j_callS (d' := d - 1) hc dX7_tellOfTwo_85 sX7_31 (ev_X7_placeOf (by omega)) rfl (by omega) (by omega) (by omega) rfl rfl (Nat.le_of_ble_eq_true rfl) (ret1 ?_)
      refine j_aload_n hc dX7_tellOfTwo_88 rfl ?_
      refine j_iload hc dX7_tellOfTwo_89 rfl ?_
      refine j_ineg hc dX7_tellOfTwo_91 ?_
      refine j_callV (d' := d - 1) hc dX7_tellOfTwo_92 vX7_35 zS_q78 (ev_X7_write (by omega) zzland2_q78 hD2 zP_2_q78 zT_2_q78 zS_q78 zS78 (by omega) (by omega) ⟨by omega, by omega⟩ hsr20 hsr21) rfl (by omega) (by omega) (by omega) rfl rfl (Nat.le_of_ble_eq_true rfl) (retN fun zq92 zp92 => ?_)
      obtain ⟨zS92, zF92⟩ := zp92
      have zRW_q92 := (zF92 _ zni).trans zRW_q78
      have zRW_2_q92 := (zF92 _ znj).trans zRW_2_q78
      have zzland_q92 := LandAt.fr (fun zj z0 z1 => zF92 (zj, l) (by first | (simp; done) | (simp; omega) | (rintro zz; simp at zz; omega))) zzland_q78
      have zzland2_q92 := LandAt.fr (fun zj z0 z1 => zF92 (zj, l2) (by first | (simp; done) | (simp; omega) | (rintro zz; simp at zz; omega))) zzland2_q78
      have zP_q92 := (zF92 _ (by first | (simp; done) | (simp; omega) | (rintro zz; simp at zz; omega))).trans zP_q78
      have zP_2_q92 := (zF92 _ (by first | (simp; done) | (simp; omega) | (rintro zz; simp at zz; omega))).trans zP_2_q78
      have zT_q92 := (zF92 _ (by first | (simp; done) | (simp; omega) | (rintro zz; simp at zz; omega))).trans zT_q78
      have zT_2_q92 := (zF92 _ (by first | (simp; done) | (simp; omega) | (rintro zz; simp at zz; omega))).trans zT_2_q78
      have zP51_q92 := (zF92 _ (by first | (simp; done) | (simp; omega) | (rintro zz; simp at zz; omega))).trans zP51_q78
      have zP51_2_q92 := (zF92 _ (by first | (simp; done) | (simp; omega) | (rintro zz; simp at zz; omega))).trans zP51_2_q78
      have zS_q92 := (zF92 _ (by first | (simp; done) | (simp; omega) | (rintro zz; simp at zz; omega))).trans zS_q78
      refine j_aload_n hc dX7_tellOfTwo_95 rfl ?_
      refine j_get hc dX7_tellOfTwo_96 fX7_39 zT_q92 rfl ?_
      refine j_get hc dX7_tellOfTwo_99 fX7_43 zP_q92 rfl ?_
      refine j_iload hc dX7_tellOfTwo_102 rfl ?_
      refine j_callV (d' := d - 1) hc dX7_tellOfTwo_104 vX7_49 zzland_q92.1 (ev_X0_seasonBehind (by omega) zzland_q92 hD (by omega) (by omega)) rfl (by omega) (by omega) (by omega) rfl rfl (Nat.le_of_ble_eq_true rfl) (ret1 ?_)
      refine j_istore (L' := [_, _, _, _, _, _, _, _, _]) hc dX7_tellOfTwo_107 (Nat.le_of_ble_eq_true rfl) rfl ?_
      refine j_iinc (L' := [_, _, _, _, _, _, _, _, _]) hc dX7_tellOfTwo_109 rfl (Nat.le_of_ble_eq_true rfl) rfl ?_
      refine j_goto (tgt := 22) hc dX7_tellOfTwo_112 (by decide) ?_
      exact ih _ (by omega) (x + 1) _ _ _ _ _ _ _ _ rfl (by omega) zzland_q92 zzland2_q92 zP_q92 zP_2_q92 zP51_q92 zP51_2_q92 zRW_q92 zRW_2_q92 zT_q92 zT_2_q92 zS_q92 zS92 ((((((hfr.tr (zF35.mono fun z zz => Or.inl (Or.inl zz))).tr (zF44.mono fun z zz => Or.inl (Or.inr zz))).tr (zF51.mono fun z zz => Or.inl zz)).tr (zF62.mono fun z zz => Or.inl zz.symm)).tr (zF78.mono fun z zz => Or.inr (Or.inr zz))).tr (zF92.mono fun z zz => Or.inr (Or.inr zz)))
set_option maxRecDepth 100000 in
set_option maxHeartbeats 4000000 in
theorem ev_X7_tellOfTwo {k : WC} {d : Nat} {h : AH} {l l2 : Int} {D D2 : LaS} {E E2 : LaY} {pl pl2 : Int → Option Nm} {i i2 sr sr2 cs cs2 : Int} {wf wf2 : Option Nm} {gn gn2 rn rn2 : Nm} {t t2 : Int} {kf kf2 rf rf2 : Int → Int} {kq kq2 : Int → Int → Int} {j : Int} {N m : Nat} {f0 : Int → Int} {b0 b02 n ro : Int} {am ke br am2 ke2 br2 tc se sp : Int} (hd : 6 ≤ d) (hL : LandAt h l D E pl) (hL2 : LandAt h l2 D2 E2 pl2) (hD : LOK D) (hD2 : LOK D2) (zp50 : h (50, i) = some (oO 2 (pF i l sr cs wf gn))) (zq50 : h (50, i2) = some (oO 2 (pF i2 l2 sr2 cs2 wf2 gn2))) (hse : lSe D = lSe D2) (hrn : rn.1 = 14) (hrn2 : rn2.1 = 14) (hN : 560 ≤ N) (hm40 : m ≤ 40) (hkq : ∀ s a : Int, 0 ≤ s → s < lSe D → 0 ≤ a → a ≤ 40 → kf (ceS n s + a) = kq s a) (hkb : kqOK D kq) (hrf : ∀ x : Int, 0 ≤ x → x < 40 → 0 ≤ rf x ∧ rf x ≤ 20) (hkq2 : ∀ s a : Int, 0 ≤ s → s < lSe D2 → 0 ≤ a → a ≤ 40 → kf2 (ceS n s + a) = kq2 s a) (hkb2 : kqOK D2 kq2) (hrf2 : ∀ x : Int, 0 ≤ x → x < 40 → 0 ≤ rf2 x ∧ rf2 x ≤ 20) (hb0 : 0 ≤ b0) (hb1 : b0 ≤ 20) (hb20 : 0 ≤ b02) (hb21 : b02 ≤ 20) (hn1 : 1 ≤ n) (hn : n ≤ 12) (hsr0 : 0 ≤ sr) (hsr1 : sr ≤ 4) (hsr20 : 0 ≤ sr2) (hsr21 : sr2 ≤ 4) (hne : t ≠ t2) (hro0 : 0 ≤ ro) (hro1 : ro ≤ 99) (zT : h (19, t) = some (oO 8 (twF i am ke br 0 0 rn b0))) (zT2 : h (19, t2) = some (oO 8 (twF i2 am2 ke2 br2 0 0 rn2 b02))) (zp51 : h (51, i) = some (oI ((lSe D).toNat * 492) kf)) (zq51 : h (51, i2) = some (oI ((lSe D2).toNat * 492) kf2)) (zR : h rn = some (oI 40 rf)) (zR2 : h rn2 = some (oI 40 rf2)) (zS : h (20, j) = some (oO 6 [vR (21, j), vI tc, vI se, vI sp])) (zS1 : h (21, j) = some (oI N f0))  : Ev k d mdX7_tellOfTwo h [vR (20, j), vR (19, t), vR (19, t2), vI n, vI m, vI ro] 0 0 (pn fun h' => h' (20, j) = some (oO 6 [vR (21, j), vI 2, vI m, vI 0]) ∧ h' (21, j) = some (oI N (tyN D D2 sr sr2 kq kq2 rf rf2 ro f0 b0 b02 m).1) ∧ (∃ am ke br st pd fb, h' (19, t) = some (oO 8 (twF i am ke br st pd rn fb))) ∧ (∃ am ke br st pd fb, h' (19, t2) = some (oO 8 (twF i2 am ke br st pd rn2 fb))) ∧ Fr (fun z => (z = (19, t) ∨ z = (19, t2)) ∨ z = (20, j) ∨ z = (21, j)) h h') := by
  have zne : rn ≠ (19, t) := fun e => by rw [e] at hrn; simp at hrn
  have zng : rn ≠ (19, t2) := fun e => by rw [e] at hrn; simp at hrn
  have znf : rn2 ≠ (19, t) := fun e => by rw [e] at hrn2; simp at hrn2
  have znh : rn2 ≠ (19, t2) := fun e => by rw [e] at hrn2; simp at hrn2
  have zni : rn ≠ (21, j) := fun e => by rw [e] at hrn; simp at hrn
  have znj : rn2 ≠ (21, j) := fun e => by rw [e] at hrn2; simp at hrn2
  have znk : rn ≠ (20, j) := fun e => by rw [e] at hrn; simp at hrn
  have znl : rn2 ≠ (20, j) := fun e => by rw [e] at hrn2; simp at hrn2
  refine Ev.mk (by decide +kernel) [_, _, _, _, _, _, _, _, _] rfl (Nat.le_of_ble_eq_true rfl) (fun w hc he => ?_)
  refine j_aload_n hc dX7_tellOfTwo_0 rfl ?_
  refine j_iconst hc dX7_tellOfTwo_1 ?_
  refine j_put (fs' := [_, _, _, _]) hc dX7_tellOfTwo_2 pX7_15 zS rfl rfl ?_
  generalize ezh1 : up _ _ _ = zh1
  have zzland_zh1 := LandAt.mv ezh1 (by simp) hL
  have zzland2_zh1 := LandAt.mv ezh1 (by simp) hL2
  have zP_zh1 := (congrFun ezh1 _).symm.trans ((up_ne (by simp)).trans zp50)
  have zP_2_zh1 := (congrFun ezh1 _).symm.trans ((up_ne (by simp)).trans zq50)
  have zT_zh1 := (congrFun ezh1 _).symm.trans ((up_ne (by simp)).trans zT)
  have zT_2_zh1 := (congrFun ezh1 _).symm.trans ((up_ne (by simp)).trans zT2)
  have zP51_zh1 := (congrFun ezh1 _).symm.trans ((up_ne (by simp)).trans zp51)
  have zP51_2_zh1 := (congrFun ezh1 _).symm.trans ((up_ne (by simp)).trans zq51)
  have zRW_zh1 := (congrFun ezh1 _).symm.trans ((up_ne (by exact znk)).trans zR)
  have zRW_2_zh1 := (congrFun ezh1 _).symm.trans ((up_ne (by exact znl)).trans zR2)
  have zS_zh1 := (congrFun ezh1 _).symm.trans (up_same _ _ _)
  have zS21_zh1 := (congrFun ezh1 _).symm.trans ((up_ne (by simp)).trans zS1)
  refine j_aload_n hc dX7_tellOfTwo_5 rfl ?_
  refine j_iload hc dX7_tellOfTwo_6 rfl ?_
  refine j_put (fs' := [_, _, _, _]) hc dX7_tellOfTwo_8 pX7_19 zS_zh1 rfl rfl ?_
  generalize ezh2 : up _ _ _ = zh2
  have zzland_zh2 := LandAt.mv ezh2 (by simp) zzland_zh1
  have zzland2_zh2 := LandAt.mv ezh2 (by simp) zzland2_zh1
  have zP_zh2 := (congrFun ezh2 _).symm.trans ((up_ne (by simp)).trans zP_zh1)
  have zP_2_zh2 := (congrFun ezh2 _).symm.trans ((up_ne (by simp)).trans zP_2_zh1)
  have zT_zh2 := (congrFun ezh2 _).symm.trans ((up_ne (by simp)).trans zT_zh1)
  have zT_2_zh2 := (congrFun ezh2 _).symm.trans ((up_ne (by simp)).trans zT_2_zh1)
  have zP51_zh2 := (congrFun ezh2 _).symm.trans ((up_ne (by simp)).trans zP51_zh1)
  have zP51_2_zh2 := (congrFun ezh2 _).symm.trans ((up_ne (by simp)).trans zP51_2_zh1)
  have zRW_zh2 := (congrFun ezh2 _).symm.trans ((up_ne (by exact znk)).trans zRW_zh1)
  have zRW_2_zh2 := (congrFun ezh2 _).symm.trans ((up_ne (by exact znl)).trans zRW_2_zh1)
  have zS_zh2 := (congrFun ezh2 _).symm.trans (up_same _ _ _)
  have zS21_zh2 := (congrFun ezh2 _).symm.trans ((up_ne (by simp)).trans zS21_zh1)
  refine j_aload_n hc dX7_tellOfTwo_11 rfl ?_
  refine j_iconst hc dX7_tellOfTwo_12 ?_
  refine j_put (fs' := [_, _, _, _]) hc dX7_tellOfTwo_13 pX7_58 zS_zh2 rfl rfl ?_
  generalize ezh3 : up _ _ _ = zh3
  have zzland_zh3 := LandAt.mv ezh3 (by simp) zzland_zh2
  have zzland2_zh3 := LandAt.mv ezh3 (by simp) zzland2_zh2
  have zP_zh3 := (congrFun ezh3 _).symm.trans ((up_ne (by simp)).trans zP_zh2)
  have zP_2_zh3 := (congrFun ezh3 _).symm.trans ((up_ne (by simp)).trans zP_2_zh2)
  have zT_zh3 := (congrFun ezh3 _).symm.trans ((up_ne (by simp)).trans zT_zh2)
  have zT_2_zh3 := (congrFun ezh3 _).symm.trans ((up_ne (by simp)).trans zT_2_zh2)
  have zP51_zh3 := (congrFun ezh3 _).symm.trans ((up_ne (by simp)).trans zP51_zh2)
  have zP51_2_zh3 := (congrFun ezh3 _).symm.trans ((up_ne (by simp)).trans zP51_2_zh2)
  have zRW_zh3 := (congrFun ezh3 _).symm.trans ((up_ne (by exact znk)).trans zRW_zh2)
  have zRW_2_zh3 := (congrFun ezh3 _).symm.trans ((up_ne (by exact znl)).trans zRW_2_zh2)
  have zS_zh3 := (congrFun ezh3 _).symm.trans (up_same _ _ _)
  have zS21_zh3 := (congrFun ezh3 _).symm.trans ((up_ne (by simp)).trans zS21_zh2)
  refine j_iconst hc dX7_tellOfTwo_16 ?_
  refine j_istore (L' := [_, _, _, _, _, _, _, _, _]) hc dX7_tellOfTwo_17 (Nat.le_of_ble_eq_true rfl) rfl ?_
  refine j_iconst hc dX7_tellOfTwo_19 ?_
  refine j_istore (L' := [_, _, _, _, _, _, _, _, _]) hc dX7_tellOfTwo_20 (Nat.le_of_ble_eq_true rfl) rfl ?_
  exact lp_X7_tellOfTwo hd hD hD2 hse hrn hrn2 hN hm40 hkq hkb hrf hkq2 hkb2 hrf2 hb0 hb1 hb20 hb21 hn1 hn hsr0 hsr1 hsr20 hsr21 hne hro0 hro1 hc he _ 0 _ _ _ _ _ _ _ _ rfl (by omega) zzland_zh3 zzland2_zh3 zP_zh3 zP_2_zh3 zP51_zh3 zP51_2_zh3 zRW_zh3 zRW_2_zh3 zT_zh3 zT_2_zh3 zS_zh3 zS21_zh3 (by rw [← ezh3, ← ezh2, ← ezh1]; exact ((((Fr.rf (fun z => (z = (19, t) ∨ z = (19, t2)) ∨ z = (20, j) ∨ z = (21, j)) _).push (Or.inr (Or.inl rfl))).push (Or.inr (Or.inl rfl))).push (Or.inr (Or.inl rfl))))
set_option maxRecDepth 100000 in
set_option maxHeartbeats 4000000 in
theorem ev_X7_init {k : WC} {d : Nat} {h : AH} {j x : Int} (hd : 2 ≤ d) (zS : h (20, j) = some (oO 6 [vN, vI 0, vI 0, vI 0])) (q21 : h (21, j) = none) (hx0 : 0 ≤ x) (hx1 : x ≤ 2) : Ev k d mdX7_init h [vR (20, j), vI x] 1 560 (pn fun h' => h' (20, j) = some (oO 6 [vR (21, j), vI 0, vI 0, vI 0]) ∧ h' (21, j) = some (oI (x * 40 * 7).toNat (fun _ => 0)) ∧ Fr (fun z => z = (20, j) ∨ z = (21, j)) h h') := by
  refine Ev.mk (by decide +kernel) [_, _] rfl (Nat.le_of_ble_eq_true rfl) (fun w hc he => ?_)
  refine j_aload_n hc dX7_init_0 rfl ?_
  refine j_objInit hc dX7_init_1 voX7_3 vo_inst vo_code rfl (by omega) (Nat.le_of_ble_eq_true rfl) ?_
  refine j_aload_n hc dX7_init_4 rfl ?_
  refine j_iload_n hc dX7_init_5 rfl ?_
  refine j_bipush hc dX7_init_6 (by decide) ?_
  refine j_imul hc dX7_init_8 ?_
  refine j_bipush hc dX7_init_9 (by decide) ?_
  refine j_imul hc dX7_init_11 ?_
  refine j_newI (nm := (21, j)) hc dX7_init_12 ka_int q21 (by omega) (by omega) (by omega) (by omega) ?_
  generalize ezh1 : up _ _ _ = zh1
  have zS_zh1 := (congrFun ezh1 _).symm.trans ((up_ne (by simp)).trans zS)
  have zS21_zh1 := (congrFun ezh1 _).symm.trans (up_same _ _ _)
  refine j_putF (fs' := [_, _, _, _]) hc dX7_init_14 pX7_11 rfl zS_zh1 rfl rfl ?_
  generalize ezh2 : up _ _ _ = zh2
  have zS_zh2 := (congrFun ezh2 _).symm.trans (up_same _ _ _)
  have zS21_zh2 := (congrFun ezh2 _).symm.trans ((up_ne (by simp)).trans zS21_zh1)
  exact j_vret hc he dX7_init_17 rfl (by omega) (by omega) ⟨rfl, zS_zh2, zS21_zh2, by rw [← ezh2, ← ezh1]; exact ((Fr.rf (fun z => z = (20, j) ∨ z = (21, j)) _).push (Or.inr rfl)).push (Or.inl rfl)⟩
