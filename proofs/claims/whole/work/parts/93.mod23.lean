/-! ===== the reference: carrying between two towns ===== -/
def wyS (D D2 : LaS) (ro x y : Int) : Int := if 0 < y ∧ prS D2 (y - 1) + ro < prS D x then 1 else if 0 < x ∧ prS D (x - 1) + ro < prS D2 y then -1 else 0
theorem prS_mono {D : LaS} (hD : LOK D) {e : Int} (h : 0 < e) : prS D e ≤ prS D (e - 1) := by
  have h1 := prS_lo hD (e - 1)
  unfold prS at h1 ⊢
  by_cases q : 0 ≤ e ∧ e < lNe D
  · rw [if_pos q, if_pos ⟨by omega, by omega⟩]
    have := hD.2.2.2.2.2.2.2.2.2.2.2.1 (e - 1) (by omega) (by omega)
    rw [show e - 1 + 1 = e by omega] at this
    exact this
  · rw [if_neg q]
    exact h1.1
theorem caN_no {D D' : LaS} {ro : Int} (m : Nat) {t : Int × Int × Int} (h : ¬ (0 < t.1 ∧ prS D (t.1 - 1) + ro < prS D' t.2.1)) : caN D D' ro m t = t := by
  cases m with
  | zero => rfl
  | succ m => simp only [caN]; rw [if_neg h]
theorem caN_sh {D D' : LaS} {ro : Int} : ∀ (m : Nat) (x y k : Int), caN D D' ro m (x, y, k) = ((caN D D' ro m (x, y, 0)).1, (caN D D' ro m (x, y, 0)).2.1, k + (caN D D' ro m (x, y, 0)).2.2)
  | 0, x, y, k => by simp only [caN]; rw [Int.add_zero]
  | m + 1, x, y, k => by
    simp only [caN]
    split
    · rw [caN_sh m (x - 1) (y + 1) (k + 1), caN_sh m (x - 1) (y + 1) (0 + 1)]
      dsimp only
      rw [show k + 1 + (caN D D' ro m (x - 1, y + 1, 0)).2.2 = k + (0 + 1 + (caN D D' ro m (x - 1, y + 1, 0)).2.2) by omega]
    · dsimp only; rw [Int.add_zero]
theorem caS_0 {D D2 : LaS} {ro x y : Int} (h : wyS D D2 ro x y = 0) : caS D D2 ro x y = (0, x, y) := by
  unfold wyS at h
  have h1 : ¬ (0 < y ∧ prS D2 (y - 1) + ro < prS D x) := fun z => by rw [if_pos z] at h; omega
  rw [if_neg h1] at h
  have h2 : ¬ (0 < x ∧ prS D (x - 1) + ro < prS D2 y) := fun z => by rw [if_pos z] at h; omega
  unfold caS
  rw [caN_no x.toNat (t := (x, y, 0)) h2]
  dsimp only
  rw [caN_no y.toNat (t := (y, x, 0)) h1]
  simp
theorem caS_m {D D2 : LaS} {ro x y : Int} (h : wyS D D2 ro x y = -1) : 0 < x ∧ caS D D2 ro x y = (1 + (caS D D2 ro (x - 1) (y + 1)).1, (caS D D2 ro (x - 1) (y + 1)).2) := by
  unfold wyS at h
  have h1 : ¬ (0 < y ∧ prS D2 (y - 1) + ro < prS D x) := fun z => by rw [if_pos z] at h; omega
  rw [if_neg h1] at h
  have h2 : 0 < x ∧ prS D (x - 1) + ro < prS D2 y := by
    by_cases z : 0 < x ∧ prS D (x - 1) + ro < prS D2 y
    · exact z
    · rw [if_neg z] at h; omega
  refine ⟨h2.1, ?_⟩
  obtain ⟨m, hm⟩ : ∃ m : Nat, x.toNat = m + 1 := ⟨x.toNat - 1, by omega⟩
  have e1 : caN D D2 ro x.toNat (x, y, 0) = caN D D2 ro m (x - 1, y + 1, 0 + 1) := by
    rw [hm]; simp only [caN]; rw [if_pos h2]
  unfold caS
  rw [e1, caN_sh m (x - 1) (y + 1) (0 + 1), show (x - 1).toNat = m by omega]
  dsimp only
  generalize caN D D2 ro m (x - 1, y + 1, 0) = u
  congr 1
  omega
theorem caS_p {D D2 : LaS} (hD : LOK D) (hD2 : LOK D2) {ro x y : Int} (hro : 0 ≤ ro) (hx : 0 ≤ x) (h : wyS D D2 ro x y = 1) : 0 < y ∧ caS D D2 ro x y = (-1 + (caS D D2 ro (x + 1) (y - 1)).1, (caS D D2 ro (x + 1) (y - 1)).2) := by
  unfold wyS at h
  have h1 : 0 < y ∧ prS D2 (y - 1) + ro < prS D x := by
    by_cases z : 0 < y ∧ prS D2 (y - 1) + ro < prS D x
    · exact z
    · rw [if_neg z] at h; split at h <;> omega
  refine ⟨h1.1, ?_⟩
  have q2 := prS_mono hD2 h1.1
  have h2 : ¬ (0 < x ∧ prS D (x - 1) + ro < prS D2 y) := fun z => by
    have q1 := prS_mono hD z.1
    omega
  have h3 : ¬ (0 < x + 1 ∧ prS D (x + 1 - 1) + ro < prS D2 (y - 1)) := fun z => by
    rw [show x + 1 - 1 = x by omega] at z
    omega
  obtain ⟨m, hm⟩ : ∃ m : Nat, y.toNat = m + 1 := ⟨y.toNat - 1, by omega⟩
  have e1 : caN D2 D ro y.toNat (y, x, 0) = caN D2 D ro m (y - 1, x + 1, 0 + 1) := by
    rw [hm]; simp only [caN]; rw [if_pos h1]
  unfold caS
  rw [caN_no x.toNat (t := (x, y, 0)) h2, caN_no (x + 1).toNat (t := (x + 1, y - 1, 0)) h3]
  dsimp only
  rw [e1, caN_sh m (y - 1) (x + 1) (0 + 1), show (y - 1).toNat = m by omega]
  dsimp only
  generalize caN D2 D ro m (y - 1, x + 1, 0) = u
  congr 1
  omega
theorem wyS_v (D D2 : LaS) (ro x y : Int) : wyS D D2 ro x y = 1 ∨ wyS D D2 ro x y = -1 ∨ wyS D D2 ro x y = 0 := by
  unfold wyS
  split
  · exact Or.inl rfl
  · split
    · exact Or.inr (Or.inl rfl)
    · exact Or.inr (Or.inr rfl)
/-- how often is still carried -/
def wyM (D D2 : LaS) (ro x y : Int) : Nat := if wyS D D2 ro x y = -1 then x.toNat else if wyS D D2 ro x y = 1 then y.toNat else 0
theorem wyM_m {D D2 : LaS} {ro x y : Int} (hro : 0 ≤ ro) (h : wyS D D2 ro x y = -1) : wyM D D2 ro (x - 1) (y + 1) < wyM D D2 ro x y := by
  have h0 := (caS_m h).1
  have h2 : prS D (x - 1) + ro < prS D2 y := by
    unfold wyS at h
    split at h
    · omega
    · split at h
      · rename_i z; exact z.2
      · omega
  have h3 : wyS D D2 ro (x - 1) (y + 1) ≠ 1 := fun z => by
    unfold wyS at z
    rw [show y + 1 - 1 = y by omega, if_neg (by omega)] at z
    split at z <;> omega
  unfold wyM
  rw [if_pos h, if_neg h3]
  split <;> omega
theorem wyM_p {D D2 : LaS} {ro x y : Int} (hro : 0 ≤ ro) (h : wyS D D2 ro x y = 1) (hy : 0 < y) : wyM D D2 ro (x + 1) (y - 1) < wyM D D2 ro x y := by
  have h2 : prS D2 (y - 1) + ro < prS D x := by
    unfold wyS at h
    split at h
    · rename_i z; exact z.2
    · split at h <;> omega
  have h3 : wyS D D2 ro (x + 1) (y - 1) ≠ -1 := fun z => by
    unfold wyS at z
    split at z
    · omega
    · rw [show x + 1 - 1 = x by omega, if_neg (by omega)] at z; omega
  unfold wyM
  rw [if_neg h3, if_neg (show ¬ wyS D D2 ro x y = -1 by omega), if_pos h]
  split <;> omega
set_option maxRecDepth 100000 in
set_option maxHeartbeats 4000000 in
theorem ev_X11_wayOf {k : WC} {d : Nat} {h : AH} {s : Int → Int} {A : MAs} {l : Int} {D : LaS} {E : LaY} {l2 : Int} {D2 : LaS} {E2 : LaY} {x y ro : Int} (hd : 2 ≤ d) (hS : MdS h s A) (hM : MlD A l D E) (hD : LOK D) (hE : YOK E) (hM2 : MlD A l2 D2 E2) (hD2 : LOK D2) (hE2 : YOK E2) (hx0 : 0 ≤ x) (hx1 : x ≤ 100) (hy0 : 0 ≤ y) (hy1 : y ≤ 100) (hr0 : 0 ≤ ro) (hr1 : ro ≤ 99) : Ev k d mdX11_wayOf h [vR (70, 0), vI l, vI l2, vI x, vI y, vI ro] 0 0 (pr (vI (wyS D D2 ro x y)) h) := by
  obtain ⟨⟨zl0, zl1⟩, mSe, mNe, mPa, mCo, mMi, mRo, mLa, mRn, mHv, mBu, mSl, mGr, mTb⟩ := id hM
  obtain ⟨d1, d2, d3, d4, d5, d6, d7, d8, d9, d10, d11, d12, d13⟩ := id hD
  obtain ⟨y1, y2, y3, y4, y5, y6, y7, y8, y9, y10⟩ := id hE
  have q1 := prS_lo hD x
  have q2 := prS_lo hD (x - 1)
  have q3 := prS_lo hD2 y
  have q4 := prS_lo hD2 (y - 1)
  refine Ev.mk (by decide +kernel) [_, _, _, _, _, _] rfl (Nat.le_of_ble_eq_true rfl) (fun w hc he => ?_)
  refine j_iload hc dX11_wayOf_0 rfl ?_
  refine j_if_le (b := 0) (tgt := 28) hc dX11_wayOf_2 (by decide) ⟨by omega, by omega⟩ (fun zc1 => ?_) (fun zc1 => ?_)
  · refine j_iload_n hc dX11_wayOf_28 rfl ?_
    refine j_if_le (b := 0) (tgt := 57) hc dX11_wayOf_29 (by decide) ⟨by omega, by omega⟩ (fun zc2 => ?_) (fun zc2 => ?_)
    · refine j_iconst hc dX11_wayOf_57 ?_
      exact j_iret hc he dX11_wayOf_58 rfl (by omega) (by omega) ⟨vI_eq (by unfold wyS; first | rw [if_pos (by omega)] | rw [if_neg (by omega), if_pos (by omega)] | rw [if_neg (by omega), if_neg (by omega)]), rfl⟩
    · refine j_aload_n hc dX11_wayOf_32 rfl ?_
      refine j_iload_n hc dX11_wayOf_33 rfl ?_
      refine j_iload hc dX11_wayOf_34 rfl ?_
      refine j_callV (d' := d - 1) hc dX11_wayOf_36 vX11_269 hS.1 (ev_X11_priceAt (by omega) hS hM2 hD2 hE2 (by omega) (by omega)) rfl (by omega) (by omega) (by omega) rfl rfl (Nat.le_of_ble_eq_true rfl) (ret1 ?_)
      refine j_aload_n hc dX11_wayOf_39 rfl ?_
      refine j_iload_n hc dX11_wayOf_40 rfl ?_
      refine j_iload_n hc dX11_wayOf_41 rfl ?_
      refine j_iconst hc dX11_wayOf_42 ?_
      refine j_isub hc dX11_wayOf_43 ?_
      refine j_callV (d' := d - 1) hc dX11_wayOf_44 vX11_269 hS.1 (ev_X11_priceAt (by omega) hS hM hD hE (by omega) (by omega)) rfl (by omega) (by omega) (by omega) rfl rfl (Nat.le_of_ble_eq_true rfl) (ret1 ?_)
      refine j_iload hc dX11_wayOf_47 rfl ?_
      refine j_iadd hc dX11_wayOf_49 ?_
      refine j_icmp_le (tgt := 57) hc dX11_wayOf_50 (by decide) ⟨by omega, by omega⟩ ⟨by omega, by omega⟩ (fun zc3 => ?_) (fun zc3 => ?_)
      · refine j_iconst hc dX11_wayOf_57 ?_
        exact j_iret hc he dX11_wayOf_58 rfl (by omega) (by omega) ⟨vI_eq (by unfold wyS; first | rw [if_pos (by omega)] | rw [if_neg (by omega), if_pos (by omega)] | rw [if_neg (by omega), if_neg (by omega)]), rfl⟩
      · refine j_iconst hc dX11_wayOf_53 ?_
        refine j_goto (tgt := 58) hc dX11_wayOf_54 (by decide) ?_
        exact j_iret hc he dX11_wayOf_58 rfl (by omega) (by omega) ⟨vI_eq (by unfold wyS; first | rw [if_pos (by omega)] | rw [if_neg (by omega), if_pos (by omega)] | rw [if_neg (by omega), if_neg (by omega)]), rfl⟩
  · refine j_aload_n hc dX11_wayOf_5 rfl ?_
    refine j_iload_n hc dX11_wayOf_6 rfl ?_
    refine j_iload_n hc dX11_wayOf_7 rfl ?_
    refine j_callV (d' := d - 1) hc dX11_wayOf_8 vX11_269 hS.1 (ev_X11_priceAt (by omega) hS hM hD hE (by omega) (by omega)) rfl (by omega) (by omega) (by omega) rfl rfl (Nat.le_of_ble_eq_true rfl) (ret1 ?_)
    refine j_aload_n hc dX11_wayOf_11 rfl ?_
    refine j_iload_n hc dX11_wayOf_12 rfl ?_
    refine j_iload hc dX11_wayOf_13 rfl ?_
    refine j_iconst hc dX11_wayOf_15 ?_
    refine j_isub hc dX11_wayOf_16 ?_
    refine j_callV (d' := d - 1) hc dX11_wayOf_17 vX11_269 hS.1 (ev_X11_priceAt (by omega) hS hM2 hD2 hE2 (by omega) (by omega)) rfl (by omega) (by omega) (by omega) rfl rfl (Nat.le_of_ble_eq_true rfl) (ret1 ?_)
    refine j_iload hc dX11_wayOf_20 rfl ?_
    refine j_iadd hc dX11_wayOf_22 ?_
    refine j_icmp_le (tgt := 28) hc dX11_wayOf_23 (by decide) ⟨by omega, by omega⟩ ⟨by omega, by omega⟩ (fun zc4 => ?_) (fun zc4 => ?_)
    · refine j_iload_n hc dX11_wayOf_28 rfl ?_
      refine j_if_le (b := 0) (tgt := 57) hc dX11_wayOf_29 (by decide) ⟨by omega, by omega⟩ (fun zc5 => ?_) (fun zc5 => ?_)
      · refine j_iconst hc dX11_wayOf_57 ?_
        exact j_iret hc he dX11_wayOf_58 rfl (by omega) (by omega) ⟨vI_eq (by unfold wyS; first | rw [if_pos (by omega)] | rw [if_neg (by omega), if_pos (by omega)] | rw [if_neg (by omega), if_neg (by omega)]), rfl⟩
      · refine j_aload_n hc dX11_wayOf_32 rfl ?_
        refine j_iload_n hc dX11_wayOf_33 rfl ?_
        refine j_iload hc dX11_wayOf_34 rfl ?_
        refine j_callV (d' := d - 1) hc dX11_wayOf_36 vX11_269 hS.1 (ev_X11_priceAt (by omega) hS hM2 hD2 hE2 (by omega) (by omega)) rfl (by omega) (by omega) (by omega) rfl rfl (Nat.le_of_ble_eq_true rfl) (ret1 ?_)
        refine j_aload_n hc dX11_wayOf_39 rfl ?_
        refine j_iload_n hc dX11_wayOf_40 rfl ?_
        refine j_iload_n hc dX11_wayOf_41 rfl ?_
        refine j_iconst hc dX11_wayOf_42 ?_
        refine j_isub hc dX11_wayOf_43 ?_
        refine j_callV (d' := d - 1) hc dX11_wayOf_44 vX11_269 hS.1 (ev_X11_priceAt (by omega) hS hM hD hE (by omega) (by omega)) rfl (by omega) (by omega) (by omega) rfl rfl (Nat.le_of_ble_eq_true rfl) (ret1 ?_)
        refine j_iload hc dX11_wayOf_47 rfl ?_
        refine j_iadd hc dX11_wayOf_49 ?_
        refine j_icmp_le (tgt := 57) hc dX11_wayOf_50 (by decide) ⟨by omega, by omega⟩ ⟨by omega, by omega⟩ (fun zc6 => ?_) (fun zc6 => ?_)
        · refine j_iconst hc dX11_wayOf_57 ?_
          exact j_iret hc he dX11_wayOf_58 rfl (by omega) (by omega) ⟨vI_eq (by unfold wyS; first | rw [if_pos (by omega)] | rw [if_neg (by omega), if_pos (by omega)] | rw [if_neg (by omega), if_neg (by omega)]), rfl⟩
        · refine j_iconst hc dX11_wayOf_53 ?_
          refine j_goto (tgt := 58) hc dX11_wayOf_54 (by decide) ?_
          exact j_iret hc he dX11_wayOf_58 rfl (by omega) (by omega) ⟨vI_eq (by unfold wyS; first | rw [if_pos (by omega)] | rw [if_neg (by omega), if_pos (by omega)] | rw [if_neg (by omega), if_neg (by omega)]), rfl⟩
    · refine j_iconst hc dX11_wayOf_26 ?_
      exact j_iret hc he dX11_wayOf_27 rfl (by omega) (by omega) ⟨vI_eq (by unfold wyS; first | rw [if_pos (by omega)] | rw [if_neg (by omega), if_pos (by omega)] | rw [if_neg (by omega), if_neg (by omega)]), rfl⟩
set_option maxRecDepth 100000 in
set_option maxHeartbeats 4000000 in
theorem ev_X11_tellTown {k : WC} {d : Nat} {h : AH} {s : Int → Int} {A : MAs} {l : Int} {D : LaS} {E : LaY} {f : Int → Int} {p x : Int} (hd : 3 ≤ d) (hS : MdS h s A) (hM : MlD A l D E) (hD : LOK D) (hE : YOK E) (z43 : h (243, 0) = some (oI 560 f)) (hp0 : 0 ≤ p) (hp1 : p + 6 < 560) (hx0 : 0 ≤ x) (hx1 : x ≤ 100) : Ev k d mdX11_tellTown h [vR (70, 0), vI l, vI p, vI x] 0 0 (pn fun h' => h' (243, 0) = some (oI 560 (fu (fu (fu f (p + 2) (min (lNe D) x)) (p + 3) (prS D x)) (p + 4) (max 0 (lNe D - x)))) ∧ Fr (fun z => z = (243, 0)) h h') := by
  obtain ⟨⟨zl0, zl1⟩, mSe, mNe, mPa, mCo, mMi, mRo, mLa, mRn, mHv, mBu, mSl, mGr, mTb⟩ := id hM
  obtain ⟨d1, d2, d3, d4, d5, d6, d7, d8, d9, d10, d11, d12, d13⟩ := id hD
  obtain ⟨y1, y2, y3, y4, y5, y6, y7, y8, y9, y10⟩ := id hE
  refine Ev.mk (by decide +kernel) [_, _, _, _] rfl (Nat.le_of_ble_eq_true rfl) (fun w hc he => ?_)
  refine j_aload_n hc dX11_tellTown_0 rfl ?_
  refine j_get hc dX11_tellTown_1 fX11_108 hS.1 rfl ?_
  refine j_iload_n hc dX11_tellTown_4 rfl ?_
  refine j_iconst hc dX11_tellTown_5 ?_
  refine j_iadd hc dX11_tellTown_6 ?_
  refine j_aload_n hc dX11_tellTown_7 rfl ?_
  refine j_get hc dX11_tellTown_8 fX11_19 hS.1 rfl ?_
  refine j_iload_n hc dX11_tellTown_11 rfl ?_
  refine j_iald hc dX11_tellTown_12 hS.2.2.2.2.1 (by omega) (by omega) ?_
  rw [mNe]
  refine j_iload_n hc dX11_tellTown_13 rfl ?_
  refine j_mmin hc dX11_tellTown_14 mX11_169 mo_min (by exact ⟨by omega, by omega⟩) ⟨by omega, by omega⟩ (by omega) (by omega) rfl (by omega) (Nat.le_of_ble_eq_true rfl) ?_
  refine j_iast hc dX11_tellTown_17 z43 (by omega) (by omega) ?_
  generalize ezh1 : up _ _ _ = zh1
  have zzmod_zh1 := MdS.mv ezh1 (by simp) hS
  have zM43_zh1 := (congrFun ezh1 _).symm.trans (up_same _ _ _)
  refine j_aload_n hc dX11_tellTown_18 rfl ?_
  refine j_get hc dX11_tellTown_19 fX11_108 zzmod_zh1.1 rfl ?_
  refine j_iload_n hc dX11_tellTown_22 rfl ?_
  refine j_iconst hc dX11_tellTown_23 ?_
  refine j_iadd hc dX11_tellTown_24 ?_
  refine j_aload_n hc dX11_tellTown_25 rfl ?_
  refine j_iload_n hc dX11_tellTown_26 rfl ?_
  refine j_iload_n hc dX11_tellTown_27 rfl ?_
  refine j_callV (d' := d - 1) hc dX11_tellTown_28 vX11_269 zzmod_zh1.1 (ev_X11_priceAt (by omega) zzmod_zh1 hM hD hE (by omega) (by omega)) rfl (by omega) (by omega) (by omega) rfl rfl (Nat.le_of_ble_eq_true rfl) (ret1 ?_)
  refine j_iast hc dX11_tellTown_31 zM43_zh1 (by omega) (by omega) ?_
  generalize ezh2 : up _ _ _ = zh2
  have zzmod_zh2 := MdS.mv ezh2 (by simp) zzmod_zh1
  have zM43_zh2 := (congrFun ezh2 _).symm.trans (up_same _ _ _)
  refine j_aload_n hc dX11_tellTown_32 rfl ?_
  refine j_get hc dX11_tellTown_33 fX11_108 zzmod_zh2.1 rfl ?_
  refine j_iload_n hc dX11_tellTown_36 rfl ?_
  refine j_iconst hc dX11_tellTown_37 ?_
  refine j_iadd hc dX11_tellTown_38 ?_
  refine j_aload_n hc dX11_tellTown_39 rfl ?_
  refine j_iload_n hc dX11_tellTown_40 rfl ?_
  refine j_iload_n hc dX11_tellTown_41 rfl ?_
  refine j_callV (d' := d - 1) hc dX11_tellTown_42 vX11_272 zzmod_zh2.1 (ev_X11_hungry (by omega) zzmod_zh2 hM hD hE ⟨by omega, by omega⟩ ⟨by omega, by omega⟩) rfl (by omega) (by omega) (by omega) rfl rfl (Nat.le_of_ble_eq_true rfl) (ret1 ?_)
  refine j_iast hc dX11_tellTown_45 zM43_zh2 (by omega) (by omega) ?_
  generalize ezh3 : up _ _ _ = zh3
  have zzmod_zh3 := MdS.mv ezh3 (by simp) zzmod_zh2
  have zM43_zh3 := (congrFun ezh3 _).symm.trans (up_same _ _ _)
  exact j_vret hc he dX11_tellTown_46 rfl (by omega) (by omega) ⟨rfl, zM43_zh3, (by rw [← ezh3]; exact Fr.push ((by rw [← ezh2]; exact Fr.push ((by rw [← ezh1]; exact Fr.push (Fr.rf _ _) rfl)) rfl)) rfl)⟩
