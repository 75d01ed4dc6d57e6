/-! ===== a story ===== -/
def plS (t i : Int) : Int := (t * 40 + i) * 7
def wrS (f : Int → Int) (p am ke ea pr hu st ca : Int) : Int → Int := fu (fu (fu (fu (fu (fu (fu f p am) (p + 1) ke) (p + 2) ea) (p + 3) pr) (p + 4) hu) (p + 5) st) (p + 6) ca
abbrev SyS : Type := (Int → Int) × Int × Int × Int × Int
/-- one season of a run: cells, season, left from before, stock, paid -/
def sy1 (D : LaS) (E : LaY) (sr : Int) (kq : Int → Int → Int) (rf : Int → Int) (i : Int) (q : SyS) : SyS :=
  (wrS q.1 (plS 0 i) (q.2.2.1 + rf i) (kq q.2.1 (q.2.2.1 + rf i)) (eaS D sr (gtT D E sr (q.2.2.1 + rf i - kq q.2.1 (q.2.2.1 + rf i), q.2.2.2.1, q.2.2.2.2)).1) (poS D sr (gtT D E sr (q.2.2.1 + rf i - kq q.2.1 (q.2.2.1 + rf i), q.2.2.2.1, q.2.2.2.2)).1) (lNe D - eaS D sr (gtT D E sr (q.2.2.1 + rf i - kq q.2.1 (q.2.2.1 + rf i), q.2.2.2.1, q.2.2.2.2)).1) (gtT D E sr (q.2.2.1 + rf i - kq q.2.1 (q.2.2.1 + rf i), q.2.2.2.1, q.2.2.2.2)).2.1 0,
   nxS D q.2.1, leS D (kq q.2.1 (q.2.2.1 + rf i)), (gtT D E sr (q.2.2.1 + rf i - kq q.2.1 (q.2.2.1 + rf i), q.2.2.2.1, q.2.2.2.2)).2.1, (gtT D E sr (q.2.2.1 + rf i - kq q.2.1 (q.2.2.1 + rf i), q.2.2.2.1, q.2.2.2.2)).2.2)
def syN (D : LaS) (E : LaY) (sr : Int) (kq : Int → Int → Int) (rf : Int → Int) (f0 : Int → Int) (b0 : Int) : Nat → SyS
  | 0 => (f0, 0, b0, 0, 0)
  | i + 1 => sy1 D E sr kq rf i (syN D E sr kq rf f0 b0 i)
abbrev kqOK (D : LaS) (kq : Int → Int → Int) : Prop := ∀ s a : Int, 0 ≤ s → s < lSe D → 0 ≤ a → a ≤ 40 → 0 ≤ kq s a ∧ kq s a ≤ 20 ∧ kq s a ≤ a
theorem gtT_b {D : LaS} {E : LaY} (hE : YOK E) {sr : Int} {t : Int × Int × Int} (h0 : 0 ≤ t.1) (h1 : t.1 ≤ 40) (h2 : 0 ≤ t.2.1) (h3 : t.2.1 ≤ 20) : 0 ≤ (gtT D E sr t).1 ∧ (gtT D E sr t).1 ≤ 60 ∧ 0 ≤ (gtT D E sr t).2.1 ∧ (gtT D E sr t).2.1 ≤ 20 := by
  unfold gtT
  split
  · omega
  · exact gtS_b hE h0 h1 h2 h3
theorem syN_b {D : LaS} {E : LaY} (hD : LOK D) (hE : YOK E) {sr : Int} {kq : Int → Int → Int} {rf : Int → Int} {f0 : Int → Int} {b0 : Int} (hk : kqOK D kq) (hb0 : 0 ≤ b0) (hb1 : b0 ≤ 20) (hr : ∀ i : Int, 0 ≤ i → i < 40 → 0 ≤ rf i ∧ rf i ≤ 20) : ∀ i : Nat, i ≤ 40 → 0 ≤ (syN D E sr kq rf f0 b0 i).2.1 ∧ (syN D E sr kq rf f0 b0 i).2.1 < lSe D ∧ 0 ≤ (syN D E sr kq rf f0 b0 i).2.2.1 ∧ (syN D E sr kq rf f0 b0 i).2.2.1 ≤ 20 ∧ 0 ≤ (syN D E sr kq rf f0 b0 i).2.2.2.1 ∧ (syN D E sr kq rf f0 b0 i).2.2.2.1 ≤ 20
  | 0, _ => ⟨Int.le_refl 0, by have := hD.1; show (0 : Int) < _; omega, hb0, hb1, Int.le_refl 0, by show (0 : Int) ≤ 20; omega⟩
  | i + 1, hi => by
    obtain ⟨h1, h2, h3, h4, h5, h6⟩ := syN_b hD hE (sr := sr) (f0 := f0) hk hb0 hb1 hr i (by omega)
    have h7 := hr i (by omega) (by omega)
    simp only [syN, sy1]
    generalize syN D E sr kq rf f0 b0 i = q at h1 h2 h3 h4 h5 h6 ⊢
    have h8 := hk q.2.1 (q.2.2.1 + rf i) h1 h2 (by omega) (by omega)
    have h9 := leS_b hD h8.1
    have h10 := nxS_b hD h1
    have h11 := gtT_b (D := D) hE (sr := sr) (t := (q.2.2.1 + rf i - kq q.2.1 (q.2.2.1 + rf i), q.2.2.2.1, q.2.2.2.2)) (by show 0 ≤ q.2.2.1 + rf i - kq q.2.1 (q.2.2.1 + rf i); omega) (by show q.2.2.1 + rf i - kq q.2.1 (q.2.2.1 + rf i) ≤ 40; omega) h5 h6
    exact ⟨h10.1, h10.2, h9.1, by omega, h11.2.2.1, h11.2.2.2⟩
/-- sacks carried: brought there, brought here, how many -/
def caN (D D' : LaS) (road : Int) : Nat → Int × Int × Int → Int × Int × Int
  | 0, t => t
  | m + 1, t => if 0 < t.1 ∧ prS D (t.1 - 1) + road < prS D' t.2.1 then caN D D' road m (t.1 - 1, t.2.1 + 1, t.2.2 + 1) else t
theorem caN_b {D D' : LaS} {road : Int} : ∀ (m : Nat) (t : Int × Int × Int), 0 ≤ t.1 → 0 ≤ (caN D D' road m t).1 ∧ (caN D D' road m t).1 ≤ t.1 ∧ (caN D D' road m t).1 + (caN D D' road m t).2.1 = t.1 + t.2.1 ∧ (caN D D' road m t).1 + (caN D D' road m t).2.2 = t.1 + t.2.2
  | 0, t, h => ⟨h, Int.le_refl _, rfl, rfl⟩
  | m + 1, t, h => by
    simp only [caN]
    split
    · have := caN_b (D := D) (D' := D') (road := road) m (t.1 - 1, t.2.1 + 1, t.2.2 + 1) (by show 0 ≤ t.1 - 1; omega)
      simp only at this
      omega
    · omega
set_option maxRecDepth 100000 in
set_option maxHeartbeats 4000000 in
theorem ev_X7_placeOf {k : WC} {d : Nat} {h : AH} {t x : Int} (hd : 1 ≤ d) : Ev k d mdX7_placeOf h [vI t, vI x] 0 0 (pr (vI (plS t x)) h) := by
  refine Ev.mk (by decide +kernel) [_, _] rfl (Nat.le_of_ble_eq_true rfl) (fun w hc he => ?_)
  refine j_iload_n hc dX7_placeOf_0 rfl ?_
  refine j_bipush hc dX7_placeOf_1 (by decide) ?_
  refine j_imul hc dX7_placeOf_3 ?_
  refine j_iload_n hc dX7_placeOf_4 rfl ?_
  refine j_iadd hc dX7_placeOf_5 ?_
  refine j_bipush hc dX7_placeOf_6 (by decide) ?_
  refine j_imul hc dX7_placeOf_8 ?_
  exact j_iret hc he dX7_placeOf_9 rfl (by omega) (by omega) ⟨rfl, rfl⟩
set_option maxRecDepth 100000 in
set_option maxHeartbeats 4000000 in
theorem ev_X7_write {k : WC} {d : Nat} {h : AH} {l : Int} {D : LaS} {E : LaY} {pl : Int → Option Nm} {i sr cs : Int} {wf : Option Nm} {gn rn : Nm} {t am ke br st pd fb : Int} {j tc se sp : Int} {N : Nat} {f : Int → Int} {p ca : Int} (hd : 4 ≤ d) (hL : LandAt h l D E pl) (hD : LOK D) (zp50 : h (50, i) = some (oO 2 (pF i l sr cs wf gn))) (zT : h (19, t) = some (oO 8 (twF i am ke br st pd rn fb))) (zS : h (20, j) = some (oO 6 [vR (21, j), vI tc, vI se, vI sp])) (zS1 : h (21, j) = some (oI N f)) (hp0 : 0 ≤ p) (hp1 : p + 6 < N) (hb : inI br) (hsr0 : 0 ≤ sr) (hsr1 : sr ≤ 4) : Ev k d mdX7_write h [vR (20, j), vI p, vR (19, t), vI ca] 0 0 (pn fun h' => h' (21, j) = some (oI N (wrS f p am ke (eaS D sr br) (poS D sr br) (lNe D - eaS D sr br) st ca)) ∧ Fr (fun z => z = (21, j)) h h') := by
  refine Ev.mk (by decide +kernel) [_, _, _, _, _] rfl (Nat.le_of_ble_eq_true rfl) (fun w hc he => ?_)
  refine j_aload_n hc dX7_write_0 rfl ?_
  refine j_get hc dX7_write_1 fX7_39 zT rfl ?_
  refine j_aload_n hc dX7_write_4 rfl ?_
  refine j_get hc dX7_write_5 fX7_65 zT rfl ?_
  refine j_callV (d' := d - 1) hc dX7_write_8 vX7_75 zp50 (ev_X2_eatenOf (by omega) hL hD zp50 hb hsr0 hsr1) rfl (by omega) (by omega) (by omega) rfl rfl (Nat.le_of_ble_eq_true rfl) (ret1 ?_)
  refine j_istore (L' := [_, _, _, _, _]) hc dX7_write_11 (Nat.le_of_ble_eq_true rfl) rfl ?_
  refine j_aload_n hc dX7_write_13 rfl ?_
  refine j_get hc dX7_write_14 fX7_11 zS rfl ?_
  refine j_iload_n hc dX7_write_17 rfl ?_
  refine j_aload_n hc dX7_write_18 rfl ?_
  refine j_get hc dX7_write_19 fX7_78 zT rfl ?_
  refine j_iast hc dX7_write_22 zS1 (by omega) (by omega) ?_
  generalize ezh1 : up _ _ _ = zh1
  have zzland_zh1 := LandAt.mv ezh1 (by simp) hL
  have zP_zh1 := (congrFun ezh1 _).symm.trans ((up_ne (by simp)).trans zp50)
  have zT_zh1 := (congrFun ezh1 _).symm.trans ((up_ne (by simp)).trans zT)
  have zS_zh1 := (congrFun ezh1 _).symm.trans ((up_ne (by simp)).trans zS)
  have zS21_zh1 := (congrFun ezh1 _).symm.trans (up_same _ _ _)
  refine j_aload_n hc dX7_write_23 rfl ?_
  refine j_get hc dX7_write_24 fX7_11 zS_zh1 rfl ?_
  refine j_iload_n hc dX7_write_27 rfl ?_
  refine j_iconst hc dX7_write_28 ?_
  refine j_iadd hc dX7_write_29 ?_
  refine j_aload_n hc dX7_write_30 rfl ?_
  refine j_get hc dX7_write_31 fX7_81 zT_zh1 rfl ?_
  refine j_iast hc dX7_write_34 zS21_zh1 (by omega) (by omega) ?_
  generalize ezh2 : up _ _ _ = zh2
  have zzland_zh2 := LandAt.mv ezh2 (by simp) zzland_zh1
  have zP_zh2 := (congrFun ezh2 _).symm.trans ((up_ne (by simp)).trans zP_zh1)
  have zT_zh2 := (congrFun ezh2 _).symm.trans ((up_ne (by simp)).trans zT_zh1)
  have zS_zh2 := (congrFun ezh2 _).symm.trans ((up_ne (by simp)).trans zS_zh1)
  have zS21_zh2 := (congrFun ezh2 _).symm.trans (up_same _ _ _)
  refine j_aload_n hc dX7_write_35 rfl ?_
  refine j_get hc dX7_write_36 fX7_11 zS_zh2 rfl ?_
  refine j_iload_n hc dX7_write_39 rfl ?_
  refine j_iconst hc dX7_write_40 ?_
  refine j_iadd hc dX7_write_41 ?_
  refine j_iload hc dX7_write_42 rfl ?_
  refine j_iast hc dX7_write_44 zS21_zh2 (by omega) (by omega) ?_
  generalize ezh3 : up _ _ _ = zh3
  have zzland_zh3 := LandAt.mv ezh3 (by simp) zzland_zh2
  have zP_zh3 := (congrFun ezh3 _).symm.trans ((up_ne (by simp)).trans zP_zh2)
  have zT_zh3 := (congrFun ezh3 _).symm.trans ((up_ne (by simp)).trans zT_zh2)
  have zS_zh3 := (congrFun ezh3 _).symm.trans ((up_ne (by simp)).trans zS_zh2)
  have zS21_zh3 := (congrFun ezh3 _).symm.trans (up_same _ _ _)
  refine j_aload_n hc dX7_write_45 rfl ?_
  refine j_get hc dX7_write_46 fX7_11 zS_zh3 rfl ?_
  refine j_iload_n hc dX7_write_49 rfl ?_
  refine j_iconst hc dX7_write_50 ?_
  refine j_iadd hc dX7_write_51 ?_
  refine j_aload_n hc dX7_write_52 rfl ?_
  refine j_get hc dX7_write_53 fX7_39 zT_zh3 rfl ?_
  refine j_aload_n hc dX7_write_56 rfl ?_
  refine j_get hc dX7_write_57 fX7_65 zT_zh3 rfl ?_
  refine j_callV (d' := d - 1) hc dX7_write_60 vX7_84 zP_zh3 (ev_X2_priceOf (by omega) zzland_zh3 hD zP_zh3 hb hsr0 hsr1) rfl (by omega) (by omega) (by omega) rfl rfl (Nat.le_of_ble_eq_true rfl) (ret1 ?_)
  refine j_iast hc dX7_write_63 zS21_zh3 (by omega) (by omega) ?_
  generalize ezh4 : up _ _ _ = zh4
  have zzland_zh4 := LandAt.mv ezh4 (by simp) zzland_zh3
  have zP_zh4 := (congrFun ezh4 _).symm.trans ((up_ne (by simp)).trans zP_zh3)
  have zT_zh4 := (congrFun ezh4 _).symm.trans ((up_ne (by simp)).trans zT_zh3)
  have zS_zh4 := (congrFun ezh4 _).symm.trans ((up_ne (by simp)).trans zS_zh3)
  have zS21_zh4 := (congrFun ezh4 _).symm.trans (up_same _ _ _)
  refine j_aload_n hc dX7_write_64 rfl ?_
  refine j_get hc dX7_write_65 fX7_11 zS_zh4 rfl ?_
  refine j_iload_n hc dX7_write_68 rfl ?_
  refine j_iconst hc dX7_write_69 ?_
  refine j_iadd hc dX7_write_70 ?_
  refine j_aload_n hc dX7_write_71 rfl ?_
  refine j_get hc dX7_write_72 fX7_39 zT_zh4 rfl ?_
  refine j_get hc dX7_write_75 fX7_43 zP_zh4 rfl ?_
  refine j_get hc dX7_write_78 fX7_87 zzland_zh4.1 rfl ?_
  refine j_alenP hc dX7_write_81 zzland_zh4.2.1 (by decide) ?_
  refine j_iload hc dX7_write_82 rfl ?_
  refine j_isub hc dX7_write_84 ?_
  refine j_iast hc dX7_write_85 zS21_zh4 (by omega) (by omega) ?_
  generalize ezh5 : up _ _ _ = zh5
  have zzland_zh5 := LandAt.mv ezh5 (by simp) zzland_zh4
  have zP_zh5 := (congrFun ezh5 _).symm.trans ((up_ne (by simp)).trans zP_zh4)
  have zT_zh5 := (congrFun ezh5 _).symm.trans ((up_ne (by simp)).trans zT_zh4)
  have zS_zh5 := (congrFun ezh5 _).symm.trans ((up_ne (by simp)).trans zS_zh4)
  have zS21_zh5 := (congrFun ezh5 _).symm.trans (up_same _ _ _)
  refine j_aload_n hc dX7_write_86 rfl ?_
  refine j_get hc dX7_write_87 fX7_11 zS_zh5 rfl ?_
  refine j_iload_n hc dX7_write_90 rfl ?_
  refine j_iconst hc dX7_write_91 ?_
  refine j_iadd hc dX7_write_92 ?_
  refine j_aload_n hc dX7_write_93 rfl ?_
  refine j_get hc dX7_write_94 fX7_90 zT_zh5 rfl ?_
  refine j_iast hc dX7_write_97 zS21_zh5 (by omega) (by omega) ?_
  generalize ezh6 : up _ _ _ = zh6
  have zzland_zh6 := LandAt.mv ezh6 (by simp) zzland_zh5
  have zP_zh6 := (congrFun ezh6 _).symm.trans ((up_ne (by simp)).trans zP_zh5)
  have zT_zh6 := (congrFun ezh6 _).symm.trans ((up_ne (by simp)).trans zT_zh5)
  have zS_zh6 := (congrFun ezh6 _).symm.trans ((up_ne (by simp)).trans zS_zh5)
  have zS21_zh6 := (congrFun ezh6 _).symm.trans (up_same _ _ _)
  refine j_aload_n hc dX7_write_98 rfl ?_
  refine j_get hc dX7_write_99 fX7_11 zS_zh6 rfl ?_
  refine j_iload_n hc dX7_write_102 rfl ?_
  refine j_bipush hc dX7_write_103 (by decide) ?_
  refine j_iadd hc dX7_write_105 ?_
  refine j_iload_n hc dX7_write_106 rfl ?_
  refine j_iast hc dX7_write_107 zS21_zh6 (by omega) (by omega) ?_
  generalize ezh7 : up _ _ _ = zh7
  have zzland_zh7 := LandAt.mv ezh7 (by simp) zzland_zh6
  have zP_zh7 := (congrFun ezh7 _).symm.trans ((up_ne (by simp)).trans zP_zh6)
  have zT_zh7 := (congrFun ezh7 _).symm.trans ((up_ne (by simp)).trans zT_zh6)
  have zS_zh7 := (congrFun ezh7 _).symm.trans ((up_ne (by simp)).trans zS_zh6)
  have zS21_zh7 := (congrFun ezh7 _).symm.trans (up_same _ _ _)
  exact j_vret hc he dX7_write_108 rfl (by omega) (by omega) ⟨rfl, zS21_zh7, by rw [← ezh7, ← ezh6, ← ezh5, ← ezh4, ← ezh3, ← ezh2, ← ezh1]; exact (((((((Fr.rf (fun z => z = (21, j)) _).push rfl).push rfl).push rfl).push rfl).push rfl).push rfl).push rfl⟩
def huN (f : Int → Int) : Nat → Int
  | 0 => 0
  | i + 1 => huN f i + f (plS 0 i + 4)
set_option maxRecDepth 100000 in
set_option maxHeartbeats 4000000 in
theorem lp_X7_hungryInAll {k : WC} {d : Nat} {w : MC} {h : AH} {j tc sp : Int} {N m : Nat} {f : Int → Int} (hd : 2 ≤ d) (zS : h (20, j) = some (oO 6 [vR (21, j), vI tc, vI m, vI sp])) (zS1 : h (21, j) = some (oI N f)) (hm40 : m ≤ 40) (hN : 280 ≤ N) (hc : Cx w k d 0 0 mdX7_hungryInAll) (he : Ends w 0 0 (pr (vI (huN f m)) h)) : ∀ (zm : Nat) (x : Nat) (c : Int), m - x = zm → x ≤ m → c = huN f x → J w 0 0 4 [some (vR (20, j)), some (vI c), some (vI x)] [] h := by
  intro zm
  induction zm using Nat.strongRecOn with
  | _ zm ih =>
    intro x c hm hx hcc
    refine j_iload_n hc dX7_hungryInAll_4 rfl ?_
    refine j_aload_n hc dX7_hungryInAll_5 rfl ?_
    refine j_get hc dX7_hungryInAll_6 fX7_19 zS rfl ?_
    refine j_icmp_ge (tgt := 33) hc dX7_hungryInAll_9 (by decide) ⟨by omega, by omega⟩ ⟨by omega, by omega⟩ (fun zc1 => ?_) (fun zc1 => ?_)
    · refine j_iload_n hc dX7_hungryInAll_33 rfl ?_
      exact j_iret hc he dX7_hungryInAll_34 rfl (by omega) (by omega) ⟨vI_eq (by rw [hcc]; congr 1; omega), rfl⟩
    · refine j_iload_n hc dX7_hungryInAll_12 rfl ?_
      refine j_aload_n hc dX7_hungryInAll_13 rfl ?_
      have zpl : plS 0 x = (0 * 40 + (x : Int)) * 7 := rfl
      refine j_get hc dX7_hungryInAll_14 fX7_11 zS rfl ?_
      refine j_iconst hc dX7_hungryInAll_17 ?_
      refine j_iload_n hc dX7_hungryInAll_18 rfl ?_
      refine j_callS (d' := d - 1) hc dX7_hungryInAll_19 sX7_31 (ev_X7_placeOf (by omega)) rfl (by omega) (by omega) (by omega) rfl rfl (Nat.le_of_ble_eq_true rfl) (ret1 ?_)
      refine j_iconst hc dX7_hungryInAll_22 ?_
      refine j_iadd hc dX7_hungryInAll_23 ?_
      refine j_iald hc dX7_hungryInAll_24 zS1 (by omega) (by omega) ?_
      refine j_iadd hc dX7_hungryInAll_25 ?_
      refine j_istore_n (L' := [_, _, _]) hc dX7_hungryInAll_26 (Nat.le_of_ble_eq_true rfl) rfl ?_
      refine j_iinc (L' := [_, _, _]) hc dX7_hungryInAll_27 rfl (Nat.le_of_ble_eq_true rfl) rfl ?_
      refine j_goto (tgt := 4) hc dX7_hungryInAll_30 (by decide) ?_
      exact ih _ (by omega) (x + 1) _ rfl (by omega) (by rw [hcc]; rfl)
set_option maxRecDepth 100000 in
set_option maxHeartbeats 4000000 in
theorem ev_X7_hungryInAll {k : WC} {d : Nat} {h : AH} {j tc sp : Int} {N m : Nat} {f : Int → Int} (hd : 2 ≤ d) (zS : h (20, j) = some (oO 6 [vR (21, j), vI tc, vI m, vI sp])) (zS1 : h (21, j) = some (oI N f)) (hm40 : m ≤ 40) (hN : 280 ≤ N) : Ev k d mdX7_hungryInAll h [vR (20, j)] 0 0 (pr (vI (huN f m)) h) := by
  refine Ev.mk (by decide +kernel) [_, _, _] rfl (Nat.le_of_ble_eq_true rfl) (fun w hc he => ?_)
  refine j_iconst hc dX7_hungryInAll_0 ?_
  refine j_istore_n (L' := [_, _, _]) hc dX7_hungryInAll_1 (Nat.le_of_ble_eq_true rfl) rfl ?_
  refine j_iconst hc dX7_hungryInAll_2 ?_
  refine j_istore_n (L' := [_, _, _]) hc dX7_hungryInAll_3 (Nat.le_of_ble_eq_true rfl) rfl ?_
  exact lp_X7_hungryInAll hd zS zS1 hm40 hN hc he _ 0 _ rfl (by omega) rfl
set_option maxRecDepth 100000 in
set_option maxHeartbeats 4000000 in
theorem lp_X7_tellOfOne {k : WC} {d : Nat} {w : MC} {h : AH} {l : Int} {D : LaS} {E : LaY} {pl : Int → Option Nm} {i sr cs : Int} {wf : Option Nm} {gn rn : Nm} {t : Int} {kf rf : Int → Int} {kq : Int → Int → Int} {j : Int} {N m : Nat} {f0 : Int → Int} {b0 n : Int} (hd : 6 ≤ d) (hD : LOK D) (hE : YOK E) (hrn : rn.1 = 14) (hN : 280 ≤ N) (hm40 : m ≤ 40) (hkq : ∀ s a : Int, 0 ≤ s → s < lSe D → 0 ≤ a → a ≤ 40 → kf (ceS n s + a) = kq s a) (hkb : kqOK D kq) (hrf : ∀ x : Int, 0 ≤ x → x < 40 → 0 ≤ rf x ∧ rf x ≤ 20) (hb0 : 0 ≤ b0) (hb1 : b0 ≤ 20) (hn1 : 1 ≤ n) (hn : n ≤ 12) (hsr0 : 0 ≤ sr) (hsr1 : sr ≤ 4)  (hc : Cx w k d 0 0 mdX7_tellOfOne) (he : Ends w 0 0 (pn fun h' => h' (20, j) = some (oO 6 [vR (21, j), vI 1, vI m, vI (syN D E sr kq rf f0 b0 m).2.2.2.2]) ∧ h' (21, j) = some (oI N (syN D E sr kq rf f0 b0 m).1) ∧ (∃ am ke br st pd fb, h' (19, t) = some (oO 8 (twF i am ke br st pd rn fb))) ∧ Fr (fun z => z = (19, t) ∨ z = (20, j) ∨ z = (21, j)) h h')) : ∀ (zm : Nat) (x : Nat) (h' : AH) (am ke br : Int) (sp : Int), m - x = zm → x ≤ m → LandAt h' l D E pl → h' (50, i) = some (oO 2 (pF i l sr cs wf gn)) → h' (51, i) = some (oI ((lSe D).toNat * 492) kf) → h' rn = some (oI 40 rf) → h' (19, t) = some (oO 8 (twF i am ke br (syN D E sr kq rf f0 b0 x).2.2.2.1 (syN D E sr kq rf f0 b0 x).2.2.2.2 rn (syN D E sr kq rf f0 b0 x).2.2.1)) → h' (20, j) = some (oO 6 [vR (21, j), vI 1, vI m, vI sp]) → h' (21, j) = some (oI N (syN D E sr kq rf f0 b0 x).1) → Fr (fun z => z = (19, t) ∨ z = (20, j) ∨ z = (21, j)) h h' → J w 0 0 16 [some (vR (20, j)), some (vR (19, t)), some (vI n), some (vI m), some (vI (syN D E sr kq rf f0 b0 x).2.1), some (vI x)] [] h' := by
  intro zm
  induction zm using Nat.strongRecOn with
  | _ zm ih =>
    intro x h' am ke br sp hm hx hL zp50 zp51 zR zT zS zS1 hfr
    obtain ⟨zq1, zq2, zq3, zq4, zq5, zq6⟩ := syN_b hD hE (sr := sr) (f0 := f0) hkb hb0 hb1 hrf x (by omega)
    have zne : rn ≠ (19, t) := fun e => by rw [e] at hrn; simp at hrn
    have zne2 : rn ≠ (20, j) := fun e => by rw [e] at hrn; simp at hrn
    have zne3 : rn ≠ (21, j) := fun e => by rw [e] at hrn; simp at hrn
    have zpl : plS 0 x = (0 * 40 + (x : Int)) * 7 := rfl
    have d2 := hD.2.1
    refine j_iload hc dX7_tellOfOne_16 rfl ?_
    refine j_iload_n hc dX7_tellOfOne_18 rfl ?_
    refine j_icmp_ge (tgt := 67) hc dX7_tellOfOne_19 (by decide) ⟨by omega, by omega⟩ ⟨by omega, by omega⟩ (fun zc1 => ?_) (fun zc1 => ?_)
    · refine j_aload_n hc dX7_tellOfOne_67 rfl ?_
      refine j_aload_n hc dX7_tellOfOne_68 rfl ?_
      refine j_get hc dX7_tellOfOne_69 fX7_55 zT rfl ?_
      refine j_put (fs' := [_, _, _, _]) hc dX7_tellOfOne_72 pX7_58 zS rfl rfl ?_
      generalize ezh1 : up _ _ _ = zh1
      have zzland_zh1 := LandAt.mv ezh1 (by simp) hL
      have zP_zh1 := (congrFun ezh1 _).symm.trans ((up_ne (by simp)).trans zp50)
      have zT_zh1 := (congrFun ezh1 _).symm.trans ((up_ne (by simp)).trans zT)
      have zP51_zh1 := (congrFun ezh1 _).symm.trans ((up_ne (by simp)).trans zp51)
      have zRW_zh1 := (congrFun ezh1 _).symm.trans ((up_ne (by exact zne2)).trans zR)
      have zS_zh1 := (congrFun ezh1 _).symm.trans (up_same _ _ _)
      have zS21_zh1 := (congrFun ezh1 _).symm.trans ((up_ne (by simp)).trans zS1)
      exact j_vret hc he dX7_tellOfOne_75 rfl (by omega) (by omega) (by (obtain rfl : x = m := by omega); exact ⟨rfl, zS_zh1, zS21_zh1, ⟨_, _, _, _, _, _, zT_zh1⟩, by rw [← ezh1]; exact hfr.push (Or.inr (Or.inl rfl))⟩)
    · have zr := hrf x (by omega) (by omega)
      have zk := hkb _ ((syN D E sr kq rf f0 b0 x).2.2.1 + rf x) zq1 zq2 (by omega) (by omega)
      have zkk := hkq _ ((syN D E sr kq rf f0 b0 x).2.2.1 + rf x) zq1 zq2 (by omega) (by omega)
      have zg := gtT_b (D := D) hE (sr := sr) (t := ((syN D E sr kq rf f0 b0 x).2.2.1 + rf x - kq (syN D E sr kq rf f0 b0 x).2.1 ((syN D E sr kq rf f0 b0 x).2.2.1 + rf x), (syN D E sr kq rf f0 b0 x).2.2.2.1, (syN D E sr kq rf f0 b0 x).2.2.2.2)) (by show 0 ≤ (syN D E sr kq rf f0 b0 x).2.2.1 + rf x - kq (syN D E sr kq rf f0 b0 x).2.1 ((syN D E sr kq rf f0 b0 x).2.2.1 + rf x); omega) (by show (syN D E sr kq rf f0 b0 x).2.2.1 + rf x - kq (syN D E sr kq rf f0 b0 x).2.1 ((syN D E sr kq rf f0 b0 x).2.2.1 + rf x) ≤ 40; omega) zq5 zq6
      refine j_aload_n hc dX7_tellOfOne_22 rfl ?_
      refine j_iload hc dX7_tellOfOne_23 rfl ?_
      refine j_iload hc dX7_tellOfOne_25 rfl ?_
      refine j_iload_n hc dX7_tellOfOne_27 rfl ?_
      refine j_callV (d' := d - 1) hc dX7_tellOfOne_28 vX7_22 zT (ev_X9_openSeason (by omega) hL hD zp50 zT zp51 zR hrn (by omega) (by omega) zr.1 zr.2 zq3 zq4 hn1 hn zq1 zq2 (by rw [zkk]; omega) (by rw [zkk]; omega)) rfl (by omega) (by omega) (by omega) rfl rfl (Nat.le_of_ble_eq_true rfl) (retN fun zq28 zp28 => ?_)
      obtain ⟨zT28, zF28⟩ := zp28
      rw [hkq _ _ zq1 zq2 (by omega) (by omega)] at zT28
      have zzland_q28 := LandAt.fr (fun zj z0 z1 => zF28 (zj, l) (by first | (simp; done) | (simp; omega))) hL
      have zP_q28 := (zF28 _ (by first | (simp; done) | (simp; omega))).trans zp50
      have zP51_q28 := (zF28 _ (by first | (simp; done) | (simp; omega))).trans zp51
      have zRW_q28 := (zF28 _ (by first | (simp; done) | (simp; omega))).trans zR
      have zS_q28 := (zF28 _ (by first | (simp; done) | (simp; omega))).trans zS
      have zS21_q28 := (zF28 _ (by first | (simp; done) | (simp; omega))).trans zS1
      refine j_aload_n hc dX7_tellOfOne_31 rfl ?_
      refine j_callV (d' := d - 1) hc dX7_tellOfOne_32 vX7_28 zT28 (ev_X9_tradeWithGranary (by omega) zzland_q28 hD hE zP_q28 zT28 (by omega) (by omega) zq5 zq6 hsr0 hsr1) rfl (by omega) (by omega) (by omega) rfl rfl (Nat.le_of_ble_eq_true rfl) (retN fun zq32 zp32 => ?_)
      obtain ⟨zT32, zF32⟩ := zp32
      have zzland_q32 := LandAt.fr (fun zj z0 z1 => zF32 (zj, l) (by first | (simp; done) | (simp; omega))) zzland_q28
      have zP_q32 := (zF32 _ (by first | (simp; done) | (simp; omega))).trans zP_q28
      have zP51_q32 := (zF32 _ (by first | (simp; done) | (simp; omega))).trans zP51_q28
      have zRW_q32 := (zF32 _ (by first | (simp; done) | (simp; omega))).trans zRW_q28
      have zS_q32 := (zF32 _ (by first | (simp; done) | (simp; omega))).trans zS_q28
      have zS21_q32 := (zF32 _ (by first | (simp; done) | (simp; omega))).trans zS21_q28
      refine j_aload_n hc dX7_tellOfOne_35 rfl ?_
      refine j_iconst hc dX7_tellOfOne_36 ?_
      refine j_iload hc dX7_tellOfOne_37 rfl ?_
      refine j_callS (d' := d - 1) hc dX7_tellOfOne_39 sX7_31 (ev_X7_placeOf (by omega)) rfl (by omega) (by omega) (by omega) rfl rfl (Nat.le_of_ble_eq_true rfl) (ret1 ?_)
      refine j_aload_n hc dX7_tellOfOne_42 rfl ?_
      refine j_iconst hc dX7_tellOfOne_43 ?_
      refine j_callV (d' := d - 1) hc dX7_tellOfOne_44 vX7_35 zS_q32 (ev_X7_write (by omega) zzland_q32 hD zP_q32 zT32 zS_q32 zS21_q32 (by omega) (by omega) ⟨by omega, by omega⟩ hsr0 hsr1) rfl (by omega) (by omega) (by omega) rfl rfl (Nat.le_of_ble_eq_true rfl) (retN fun zq44 zp44 => ?_)
      obtain ⟨zS44, zF44⟩ := zp44
      have zzland_q44 := LandAt.fr (fun zj z0 z1 => zF44 (zj, l) (by first | (simp; done) | (simp; omega))) zzland_q32
      have zP_q44 := (zF44 _ (by first | (simp; done) | (simp; omega))).trans zP_q32
      have zT_q44 := (zF44 _ (by first | (simp; done) | (simp; omega))).trans zT32
      have zP51_q44 := (zF44 _ (by first | (simp; done) | (simp; omega))).trans zP51_q32
      have zRW_q44 := (zF44 _ (by first | (simp; done) | (simp; omega))).trans zRW_q32
      have zS_q44 := (zF44 _ (by first | (simp; done) | (simp; omega))).trans zS_q32
      refine j_aload_n hc dX7_tellOfOne_47 rfl ?_
      refine j_get hc dX7_tellOfOne_48 fX7_39 zT_q44 rfl ?_
      refine j_get hc dX7_tellOfOne_51 fX7_43 zP_q44 rfl ?_
      refine j_iload hc dX7_tellOfOne_54 rfl ?_
      refine j_callV (d' := d - 1) hc dX7_tellOfOne_56 vX7_49 zzland_q44.1 (ev_X0_seasonBehind (by omega) zzland_q44 hD (by omega) (by omega)) rfl (by omega) (by omega) (by omega) rfl rfl (Nat.le_of_ble_eq_true rfl) (ret1 ?_)
      refine j_istore (L' := [_, _, _, _, _, _]) hc dX7_tellOfOne_59 (Nat.le_of_ble_eq_true rfl) rfl ?_
      refine j_iinc (L' := [_, _, _, _, _, _]) hc dX7_tellOfOne_61 rfl (Nat.le_of_ble_eq_true rfl) rfl ?_
      refine j_goto (tgt := 16) hc dX7_tellOfOne_64 (by decide) ?_
      exact ih _ (by omega) (x + 1) _ _ _ _ _ rfl (by omega) zzland_q44 zP_q44 zP51_q44 zRW_q44 zT_q44 zS_q44 zS44 (((hfr.tr (zF28.mono fun z zz => Or.inl zz)).tr (zF32.mono fun z zz => Or.inl zz)).tr (zF44.mono fun z zz => Or.inr (Or.inr zz)))
set_option maxRecDepth 100000 in
set_option maxHeartbeats 4000000 in
theorem ev_X7_tellOfOne {k : WC} {d : Nat} {h : AH} {l : Int} {D : LaS} {E : LaY} {pl : Int → Option Nm} {i sr cs : Int} {wf : Option Nm} {gn rn : Nm} {t : Int} {kf rf : Int → Int} {kq : Int → Int → Int} {j : Int} {N m : Nat} {f0 : Int → Int} {b0 n : Int} {am ke br tc se sp : Int} (hd : 6 ≤ d) (hL : LandAt h l D E pl) (hD : LOK D) (hE : YOK E) (hrn : rn.1 = 14) (hN : 280 ≤ N) (hm40 : m ≤ 40) (hkq : ∀ s a : Int, 0 ≤ s → s < lSe D → 0 ≤ a → a ≤ 40 → kf (ceS n s + a) = kq s a) (hkb : kqOK D kq) (hrf : ∀ x : Int, 0 ≤ x → x < 40 → 0 ≤ rf x ∧ rf x ≤ 20) (hb0 : 0 ≤ b0) (hb1 : b0 ≤ 20) (hn1 : 1 ≤ n) (hn : n ≤ 12) (hsr0 : 0 ≤ sr) (hsr1 : sr ≤ 4) (zp50 : h (50, i) = some (oO 2 (pF i l sr cs wf gn))) (zT : h (19, t) = some (oO 8 (twF i am ke br 0 0 rn b0))) (zp51 : h (51, i) = some (oI ((lSe D).toNat * 492) kf)) (zR : h rn = some (oI 40 rf)) (zS : h (20, j) = some (oO 6 [vR (21, j), vI tc, vI se, vI sp])) (zS1 : h (21, j) = some (oI N f0))  : Ev k d mdX7_tellOfOne h [vR (20, j), vR (19, t), vI n, vI m] 0 0 (pn fun h' => h' (20, j) = some (oO 6 [vR (21, j), vI 1, vI m, vI (syN D E sr kq rf f0 b0 m).2.2.2.2]) ∧ h' (21, j) = some (oI N (syN D E sr kq rf f0 b0 m).1) ∧ (∃ am ke br st pd fb, h' (19, t) = some (oO 8 (twF i am ke br st pd rn fb))) ∧ Fr (fun z => z = (19, t) ∨ z = (20, j) ∨ z = (21, j)) h h') := by
  have zne : rn ≠ (19, t) := fun e => by rw [e] at hrn; simp at hrn
  have zne2 : rn ≠ (20, j) := fun e => by rw [e] at hrn; simp at hrn
  have zne3 : rn ≠ (21, j) := fun e => by rw [e] at hrn; simp at hrn
  refine Ev.mk (by decide +kernel) [_, _, _, _, _, _] rfl (Nat.le_of_ble_eq_true rfl) (fun w hc he => ?_)
  refine j_aload_n hc dX7_tellOfOne_0 rfl ?_
  refine j_iconst hc dX7_tellOfOne_1 ?_
  refine j_put (fs' := [_, _, _, _]) hc dX7_tellOfOne_2 pX7_15 zS rfl rfl ?_
  generalize ezh1 : up _ _ _ = zh1
  have zzland_zh1 := LandAt.mv ezh1 (by simp) hL
  have zP_zh1 := (congrFun ezh1 _).symm.trans ((up_ne (by simp)).trans zp50)
  have zT_zh1 := (congrFun ezh1 _).symm.trans ((up_ne (by simp)).trans zT)
  have zP51_zh1 := (congrFun ezh1 _).symm.trans ((up_ne (by simp)).trans zp51)
  have zRW_zh1 := (congrFun ezh1 _).symm.trans ((up_ne (by exact zne2)).trans zR)
  have zS_zh1 := (congrFun ezh1 _).symm.trans (up_same _ _ _)
  have zS21_zh1 := (congrFun ezh1 _).symm.trans ((up_ne (by simp)).trans zS1)
  refine j_aload_n hc dX7_tellOfOne_5 rfl ?_
  refine j_iload_n hc dX7_tellOfOne_6 rfl ?_
  refine j_put (fs' := [_, _, _, _]) hc dX7_tellOfOne_7 pX7_19 zS_zh1 rfl rfl ?_
  generalize ezh2 : up _ _ _ = zh2
  have zzland_zh2 := LandAt.mv ezh2 (by simp) zzland_zh1
  have zP_zh2 := (congrFun ezh2 _).symm.trans ((up_ne (by simp)).trans zP_zh1)
  have zT_zh2 := (congrFun ezh2 _).symm.trans ((up_ne (by simp)).trans zT_zh1)
  have zP51_zh2 := (congrFun ezh2 _).symm.trans ((up_ne (by simp)).trans zP51_zh1)
  have zRW_zh2 := (congrFun ezh2 _).symm.trans ((up_ne (by exact zne2)).trans zRW_zh1)
  have zS_zh2 := (congrFun ezh2 _).symm.trans (up_same _ _ _)
  have zS21_zh2 := (congrFun ezh2 _).symm.trans ((up_ne (by simp)).trans zS21_zh1)
  refine j_iconst hc dX7_tellOfOne_10 ?_
  refine j_istore (L' := [_, _, _, _, _, _]) hc dX7_tellOfOne_11 (Nat.le_of_ble_eq_true rfl) rfl ?_
  refine j_iconst hc dX7_tellOfOne_13 ?_
  refine j_istore (L' := [_, _, _, _, _, _]) hc dX7_tellOfOne_14 (Nat.le_of_ble_eq_true rfl) rfl ?_
  exact lp_X7_tellOfOne hd hD hE hrn hN hm40 hkq hkb hrf hb0 hb1 hn1 hn hsr0 hsr1 hc he _ 0 _ _ _ _ _ rfl (by omega) zzland_zh2 zP_zh2 zP51_zh2 zRW_zh2 zT_zh2 zS_zh2 zS21_zh2 (by rw [← ezh2, ← ezh1]; exact (((Fr.rf (fun z => z = (19, t) ∨ z = (20, j) ∨ z = (21, j)) _).push (Or.inr (Or.inl rfl))).push (Or.inr (Or.inl rfl))))
