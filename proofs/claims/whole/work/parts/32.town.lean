/-! ===== a town ===== -/
def twF (i am ke br st pd : Int) (rn : Nm) (fb : Int) : List AV := [vR (50, i), vI am, vI ke, vI br, vI st, vI pd, vR rn, vI fb]
/-- the granary buys: brought, stock, paid -/
def gbN (D : LaS) (b g : Int) : Nat → Int × Int × Int → Int × Int × Int
  | 0, t => t
  | m + 1, t => if t.2.1 < g ∧ prS D t.1 < b ∧ 0 < t.1 then gbN D b g m (t.1 - 1, t.2.1 + 1, t.2.2 + prS D t.1) else t
def gsN (D : LaS) (b : Int) : Nat → Int × Int × Int → Int × Int × Int
  | 0, t => t
  | m + 1, t => if 0 < t.2.1 ∧ b < prS D t.1 then gsN D b m (t.1 + 1, t.2.1 - 1, t.2.2 - prS D t.1) else t
abbrev gbB (D : LaS) (b g : Int) (t : Int × Int × Int) : Prop := t.2.1 < g ∧ prS D t.1 < b ∧ 0 < t.1
def gtS (D : LaS) (E : LaY) (t : Int × Int × Int) : Int × Int × Int := if gbB D (yBuy E) (yGr E) t then gbN D (yBuy E) (yGr E) (yGr E - t.2.1).toNat t else gsN D (ySell E) t.2.1.toNat t
theorem gbN_b {D : LaS} {b g : Int} : ∀ (m : Nat) (t : Int × Int × Int), 0 ≤ t.1 → t.1 ≤ (gbN D b g m t).1 + m ∧ 0 ≤ (gbN D b g m t).1 ∧ (gbN D b g m t).1 ≤ t.1 ∧ t.2.1 ≤ (gbN D b g m t).2.1 ∧ (gbN D b g m t).2.1 ≤ max t.2.1 g
  | 0, t, h => by simp only [gbN]; omega
  | m + 1, t, h => by
    simp only [gbN]
    split
    · rename_i q
      have := gbN_b (D := D) (b := b) (g := g) m (t.1 - 1, t.2.1 + 1, t.2.2 + prS D t.1) (by show 0 ≤ t.1 - 1; omega)
      simp only at this
      omega
    · omega
theorem gsN_b {D : LaS} {b : Int} : ∀ (m : Nat) (t : Int × Int × Int), 0 ≤ t.2.1 → t.1 ≤ (gsN D b m t).1 ∧ (gsN D b m t).1 ≤ t.1 + m ∧ 0 ≤ (gsN D b m t).2.1 ∧ (gsN D b m t).2.1 ≤ t.2.1
  | 0, t, h => by simp only [gsN]; omega
  | m + 1, t, h => by
    simp only [gsN]
    split
    · rename_i q
      have := gsN_b (D := D) (b := b) m (t.1 + 1, t.2.1 - 1, t.2.2 - prS D t.1) (by show 0 ≤ t.2.1 - 1; omega)
      simp only at this
      omega
    · omega
theorem gtS_b {D : LaS} {E : LaY} (hE : YOK E) {t : Int × Int × Int} (h0 : 0 ≤ t.1) (h1 : t.1 ≤ 40) (h2 : 0 ≤ t.2.1) (h3 : t.2.1 ≤ 20) : 0 ≤ (gtS D E t).1 ∧ (gtS D E t).1 ≤ 60 ∧ 0 ≤ (gtS D E t).2.1 ∧ (gtS D E t).2.1 ≤ 20 := by
  have y6 := hE.2.2.2.2.2.2.1
  unfold gtS
  split
  · have := gbN_b (D := D) (b := yBuy E) (g := yGr E) (yGr E - t.2.1).toNat t h0
    omega
  · have := gsN_b (D := D) (b := ySell E) t.2.1.toNat t h2
    omega
set_option maxRecDepth 100000 in
set_option maxHeartbeats 4000000 in
theorem ev_X9_begin {k : WC} {d : Nat} {h : AH} {i : Int} {rn : Nm} {t b : Int} {am ke br st pd fb : Int} {o1 o2 : Option Nm} (hd : 1 ≤ d) (zT : h (19, t) = some (oO 8 [vO o1, vI am, vI ke, vI br, vI st, vI pd, vO o2, vI fb]))  : Ev k d mdX9_begin h [vR (19, t), vR (50, i), vR rn, vI b] 0 0 (pn fun h' => h' (19, t) = some (oO 8 (twF i am ke br 0 0 rn b)) ∧ Fr (fun z => z = (19, t)) h h') := by
  refine Ev.mk (by decide +kernel) [_, _, _, _] rfl (Nat.le_of_ble_eq_true rfl) (fun w hc he => ?_)
  refine j_aload_n hc dX9_begin_0 rfl ?_
  refine j_aload_n hc dX9_begin_1 rfl ?_
  refine j_put (fs' := [_, _, _, _, _, _, _, _]) hc dX9_begin_2 pX9_9 zT rfl rfl ?_
  generalize ezh1 : up _ _ _ = zh1
  have zT_zh1 := (congrFun ezh1 _).symm.trans (up_same _ _ _)
  refine j_aload_n hc dX9_begin_5 rfl ?_
  refine j_aload_n hc dX9_begin_6 rfl ?_
  refine j_put (fs' := [_, _, _, _, _, _, _, _]) hc dX9_begin_7 pX9_15 zT_zh1 rfl rfl ?_
  generalize ezh2 : up _ _ _ = zh2
  have zT_zh2 := (congrFun ezh2 _).symm.trans (up_same _ _ _)
  refine j_aload_n hc dX9_begin_10 rfl ?_
  refine j_iload_n hc dX9_begin_11 rfl ?_
  refine j_put (fs' := [_, _, _, _, _, _, _, _]) hc dX9_begin_12 pX9_19 zT_zh2 rfl rfl ?_
  generalize ezh3 : up _ _ _ = zh3
  have zT_zh3 := (congrFun ezh3 _).symm.trans (up_same _ _ _)
  refine j_aload_n hc dX9_begin_15 rfl ?_
  refine j_iconst hc dX9_begin_16 ?_
  refine j_put (fs' := [_, _, _, _, _, _, _, _]) hc dX9_begin_17 pX9_23 zT_zh3 rfl rfl ?_
  generalize ezh4 : up _ _ _ = zh4
  have zT_zh4 := (congrFun ezh4 _).symm.trans (up_same _ _ _)
  refine j_aload_n hc dX9_begin_20 rfl ?_
  refine j_iconst hc dX9_begin_21 ?_
  refine j_put (fs' := [_, _, _, _, _, _, _, _]) hc dX9_begin_22 pX9_26 zT_zh4 rfl rfl ?_
  generalize ezh5 : up _ _ _ = zh5
  have zT_zh5 := (congrFun ezh5 _).symm.trans (up_same _ _ _)
  exact j_vret hc he dX9_begin_25 rfl (by omega) (by omega) ⟨rfl, zT_zh5, by rw [← ezh5, ← ezh4, ← ezh3, ← ezh2, ← ezh1]; exact (((((Fr.rf (fun z => z = (19, t)) _).push rfl).push rfl).push rfl).push rfl).push rfl⟩
set_option maxRecDepth 100000 in
set_option maxHeartbeats 4000000 in
theorem ev_X9_openSeason {k : WC} {d : Nat} {h : AH} {l : Int} {D : LaS} {E : LaY} {pl : Int → Option Nm} {i sr cs : Int} {wf : Option Nm} {gn rn : Nm} {t am ke br st pd fb : Int} {kf rf : Int → Int} {x n s : Int} (hd : 3 ≤ d) (hL : LandAt h l D E pl) (hD : LOK D) (zp50 : h (50, i) = some (oO 2 (pF i l sr cs wf gn))) (zT : h (19, t) = some (oO 8 (twF i am ke br st pd rn fb))) (zp51 : h (51, i) = some (oI ((lSe D).toNat * 492) kf)) (zR : h rn = some (oI 40 rf)) (hrn : rn.1 = 14) (hx0 : 0 ≤ x) (hx1 : x < 40) (hr0 : 0 ≤ rf x) (hr1 : rf x ≤ 20) (hf0 : 0 ≤ fb) (hf1 : fb ≤ 20) (hn1 : 1 ≤ n) (hn : n ≤ 12) (hs0 : 0 ≤ s) (hs1 : s < lSe D) (hk0 : 0 ≤ kf (ceS n s + (fb + rf x))) (hk1 : kf (ceS n s + (fb + rf x)) ≤ 20) : Ev k d mdX9_openSeason h [vR (19, t), vI x, vI s, vI n] 0 0 (pn fun h' => h' (19, t) = some (oO 8 (twF i (fb + rf x) (kf (ceS n s + (fb + rf x))) (fb + rf x - kf (ceS n s + (fb + rf x))) st pd rn (leS D (kf (ceS n s + (fb + rf x)))))) ∧ Fr (fun z => z = (19, t)) h h') := by
  obtain ⟨g30, g31, g32, g33, g34, g35, g36, ⟨f37, g37, q37⟩, ⟨f38, g38, q38⟩, ⟨f39, g39, q39⟩, g40⟩ := id hL
  obtain ⟨d1, d2, d3, d4, d5, d6, d7, d8, d9, d10, d11, d12, d13⟩ := id hD
  have zci := ceS_in (D := D) hs0 hs1 hn1 hn (a := fb + rf x) (by omega) (by omega)
  have zne : rn ≠ (19, t) := fun e => by rw [e] at hrn; simp at hrn
  refine Ev.mk (by decide +kernel) [_, _, _, _] rfl (Nat.le_of_ble_eq_true rfl) (fun w hc he => ?_)
  refine j_aload_n hc dX9_openSeason_0 rfl ?_
  refine j_aload_n hc dX9_openSeason_1 rfl ?_
  refine j_get hc dX9_openSeason_2 fX9_19 zT rfl ?_
  refine j_aload_n hc dX9_openSeason_5 rfl ?_
  refine j_get hc dX9_openSeason_6 fX9_15 zT rfl ?_
  refine j_iload_n hc dX9_openSeason_9 rfl ?_
  refine j_iald hc dX9_openSeason_10 zR (by omega) (by omega) ?_
  refine j_iadd hc dX9_openSeason_11 ?_
  refine j_put (fs' := [_, _, _, _, _, _, _, _]) hc dX9_openSeason_12 pX9_29 zT rfl rfl ?_
  generalize ezh1 : up _ _ _ = zh1
  have zzland_zh1 := LandAt.mv ezh1 (by simp) hL
  have zP_zh1 := (congrFun ezh1 _).symm.trans ((up_ne (by simp)).trans zp50)
  have zP51_zh1 := (congrFun ezh1 _).symm.trans ((up_ne (by simp)).trans zp51)
  have zT_zh1 := (congrFun ezh1 _).symm.trans (up_same _ _ _)
  have zRW_zh1 := (congrFun ezh1 _).symm.trans ((up_ne (by exact zne)).trans zR)
  refine j_aload_n hc dX9_openSeason_15 rfl ?_
  refine j_aload_n hc dX9_openSeason_16 rfl ?_
  refine j_get hc dX9_openSeason_17 fX9_9 zT_zh1 rfl ?_
  refine j_iload_n hc dX9_openSeason_20 rfl ?_
  refine j_iload_n hc dX9_openSeason_21 rfl ?_
  refine j_aload_n hc dX9_openSeason_22 rfl ?_
  refine j_get hc dX9_openSeason_23 fX9_29 zT_zh1 rfl ?_
  refine j_callV (d' := d - 1) hc dX9_openSeason_26 vX9_32 zP_zh1 (ev_X2_keptAt (by omega) zzland_zh1 hD zP_zh1 zP51_zh1 hn1 hn hs0 hs1 (by omega) (by omega)) rfl (by omega) (by omega) (by omega) rfl rfl (Nat.le_of_ble_eq_true rfl) (ret1 ?_)
  refine j_put (fs' := [_, _, _, _, _, _, _, _]) hc dX9_openSeason_29 pX9_38 zT_zh1 rfl rfl ?_
  generalize ezh2 : up _ _ _ = zh2
  have zzland_zh2 := LandAt.mv ezh2 (by simp) zzland_zh1
  have zP_zh2 := (congrFun ezh2 _).symm.trans ((up_ne (by simp)).trans zP_zh1)
  have zP51_zh2 := (congrFun ezh2 _).symm.trans ((up_ne (by simp)).trans zP51_zh1)
  have zT_zh2 := (congrFun ezh2 _).symm.trans (up_same _ _ _)
  have zRW_zh2 := (congrFun ezh2 _).symm.trans ((up_ne (by exact zne)).trans zRW_zh1)
  refine j_aload_n hc dX9_openSeason_32 rfl ?_
  refine j_aload_n hc dX9_openSeason_33 rfl ?_
  refine j_get hc dX9_openSeason_34 fX9_9 zT_zh2 rfl ?_
  refine j_get hc dX9_openSeason_37 fX9_41 zP_zh2 rfl ?_
  refine j_aload_n hc dX9_openSeason_40 rfl ?_
  refine j_get hc dX9_openSeason_41 fX9_38 zT_zh2 rfl ?_
  refine j_callV (d' := d - 1) hc dX9_openSeason_44 vX9_45 zzland_zh2.1 (ev_X0_leftOf (by omega) zzland_zh2 hD (by omega) (by omega)) rfl (by omega) (by omega) (by omega) rfl rfl (Nat.le_of_ble_eq_true rfl) (ret1 ?_)
  refine j_put (fs' := [_, _, _, _, _, _, _, _]) hc dX9_openSeason_47 pX9_19 zT_zh2 rfl rfl ?_
  generalize ezh3 : up _ _ _ = zh3
  have zzland_zh3 := LandAt.mv ezh3 (by simp) zzland_zh2
  have zP_zh3 := (congrFun ezh3 _).symm.trans ((up_ne (by simp)).trans zP_zh2)
  have zP51_zh3 := (congrFun ezh3 _).symm.trans ((up_ne (by simp)).trans zP51_zh2)
  have zT_zh3 := (congrFun ezh3 _).symm.trans (up_same _ _ _)
  have zRW_zh3 := (congrFun ezh3 _).symm.trans ((up_ne (by exact zne)).trans zRW_zh2)
  refine j_aload_n hc dX9_openSeason_50 rfl ?_
  refine j_aload_n hc dX9_openSeason_51 rfl ?_
  refine j_get hc dX9_openSeason_52 fX9_29 zT_zh3 rfl ?_
  refine j_aload_n hc dX9_openSeason_55 rfl ?_
  refine j_get hc dX9_openSeason_56 fX9_38 zT_zh3 rfl ?_
  refine j_isub hc dX9_openSeason_59 ?_
  refine j_put (fs' := [_, _, _, _, _, _, _, _]) hc dX9_openSeason_60 pX9_51 zT_zh3 rfl rfl ?_
  generalize ezh4 : up _ _ _ = zh4
  have zzland_zh4 := LandAt.mv ezh4 (by simp) zzland_zh3
  have zP_zh4 := (congrFun ezh4 _).symm.trans ((up_ne (by simp)).trans zP_zh3)
  have zP51_zh4 := (congrFun ezh4 _).symm.trans ((up_ne (by simp)).trans zP51_zh3)
  have zT_zh4 := (congrFun ezh4 _).symm.trans (up_same _ _ _)
  have zRW_zh4 := (congrFun ezh4 _).symm.trans ((up_ne (by exact zne)).trans zRW_zh3)
  exact j_vret hc he dX9_openSeason_63 rfl (by omega) (by omega) ⟨rfl, zT_zh4, by rw [← ezh4, ← ezh3, ← ezh2, ← ezh1]; exact ((((Fr.rf (fun z => z = (19, t)) _).push rfl).push rfl).push rfl).push rfl⟩
set_option maxRecDepth 100000 in
set_option maxHeartbeats 4000000 in
theorem ev_X9_priceNow {k : WC} {d : Nat} {h : AH} {l : Int} {D : LaS} {E : LaY} {pl : Int → Option Nm} {i sr cs : Int} {wf : Option Nm} {gn rn : Nm} {t am ke br st pd fb : Int} (hd : 2 ≤ d) (hL : LandAt h l D E pl) (hD : LOK D) (zp50 : h (50, i) = some (oO 2 (pF i l sr cs wf gn))) (zT : h (19, t) = some (oO 8 (twF i am ke br st pd rn fb))) (hb : inI br) : Ev k d mdX9_priceNow h [vR (19, t)] 0 0 (pr (vI (prS D br)) h) := by
  refine Ev.mk (by decide +kernel) [_] rfl (Nat.le_of_ble_eq_true rfl) (fun w hc he => ?_)
  refine j_aload_n hc dX9_priceNow_0 rfl ?_
  refine j_get hc dX9_priceNow_1 fX9_9 zT rfl ?_
  refine j_get hc dX9_priceNow_4 fX9_41 zp50 rfl ?_
  refine j_aload_n hc dX9_priceNow_7 rfl ?_
  refine j_get hc dX9_priceNow_8 fX9_51 zT rfl ?_
  refine j_callV (d' := d - 1) hc dX9_priceNow_11 vX9_54 hL.1 (ev_X0_priceAfter (by omega) hL hD hb) rfl (by omega) (by omega) (by omega) rfl rfl (Nat.le_of_ble_eq_true rfl) (ret1 ?_)
  exact j_iret hc he dX9_priceNow_14 rfl (by omega) (by omega) ⟨rfl, rfl⟩
set_option maxRecDepth 100000 in
set_option maxHeartbeats 4000000 in
theorem ev_X9_priceWithOneFewer {k : WC} {d : Nat} {h : AH} {l : Int} {D : LaS} {E : LaY} {pl : Int → Option Nm} {i sr cs : Int} {wf : Option Nm} {gn rn : Nm} {t am ke br st pd fb : Int} (hd : 2 ≤ d) (hL : LandAt h l D E pl) (hD : LOK D) (zp50 : h (50, i) = some (oO 2 (pF i l sr cs wf gn))) (zT : h (19, t) = some (oO 8 (twF i am ke br st pd rn fb))) (hb : inI (br - 1)) : Ev k d mdX9_priceWithOneFewer h [vR (19, t)] 0 0 (pr (vI (prS D (br - 1))) h) := by
  refine Ev.mk (by decide +kernel) [_] rfl (Nat.le_of_ble_eq_true rfl) (fun w hc he => ?_)
  refine j_aload_n hc dX9_priceWithOneFewer_0 rfl ?_
  refine j_get hc dX9_priceWithOneFewer_1 fX9_9 zT rfl ?_
  refine j_get hc dX9_priceWithOneFewer_4 fX9_41 zp50 rfl ?_
  refine j_aload_n hc dX9_priceWithOneFewer_7 rfl ?_
  refine j_get hc dX9_priceWithOneFewer_8 fX9_51 zT rfl ?_
  refine j_iconst hc dX9_priceWithOneFewer_11 ?_
  refine j_isub hc dX9_priceWithOneFewer_12 ?_
  refine j_callV (d' := d - 1) hc dX9_priceWithOneFewer_13 vX9_54 hL.1 (ev_X0_priceAfter (by omega) hL hD hb) rfl (by omega) (by omega) (by omega) rfl rfl (Nat.le_of_ble_eq_true rfl) (ret1 ?_)
  exact j_iret hc he dX9_priceWithOneFewer_16 rfl (by omega) (by omega) ⟨rfl, rfl⟩
set_option maxRecDepth 100000 in
set_option maxHeartbeats 4000000 in
theorem lp_X9_granaryBuys {k : WC} {d : Nat} {w : MC} {h : AH} {l : Int} {D : LaS} {E : LaY} {pl : Int → Option Nm} {i sr cs : Int} {wf : Option Nm} {gn rn : Nm} {t am ke fb : Int} {T0 : Int × Int × Int} {B0 : Prop} (hd : 3 ≤ d) (hD : LOK D) (hE : YOK E) (hB : B0 ↔ gbB D (yBuy E) (yGr E) T0) (hc : Cx w k d 0 0 mdX9_granaryBuys) (he : Ends w 0 0 (pe fun v h' => (∃ bo : Int, v = vI bo ∧ (bo = 0 ∨ bo = 1) ∧ (bo = 1 ↔ B0)) ∧ h' (19, t) = some (oO 8 (twF i am ke ((gbN D (yBuy E) (yGr E) (yGr E - T0.2.1).toNat T0).1) ((gbN D (yBuy E) (yGr E) (yGr E - T0.2.1).toNat T0).2.1) ((gbN D (yBuy E) (yGr E) (yGr E - T0.2.1).toNat T0).2.2) rn fb)) ∧ Fr (fun z => z = (19, t)) h h')) : ∀ (zm : Nat) (bo q br pd : Int) (h' : AH), (yGr E - q).toNat = zm → 0 ≤ q → q ≤ 20 → 0 ≤ br → br ≤ 40 → LandAt h' l D E pl → h' (50, i) = some (oO 2 (pF i l sr cs wf gn)) → h' (19, t) = some (oO 8 (twF i am ke br q pd rn fb)) → Fr (fun z => z = (19, t)) h h' → gbN D (yBuy E) (yGr E) (yGr E - q).toNat (br, q, pd) = gbN D (yBuy E) (yGr E) (yGr E - T0.2.1).toNat T0 → ((bo = 0 ∧ (br, q, pd) = T0) ∨ (bo = 1 ∧ B0)) → J w 0 0 7 [some (vR (19, t)), some (vI bo), some (vI q)] [] h' := by
  intro zm
  induction zm using Nat.strongRecOn with
  | _ zm ih =>
    intro bo q br pd h' hm hq0 hq1 hb0 hb1 hL zp50 zT hfr hgb hbo
    obtain ⟨y1, y2, y3, y4, y5, y6, y7, -⟩ := id hE
    have zpr := prS_lo hD br
    refine j_iload_n hc dX9_granaryBuys_7 rfl ?_
    refine j_aload_n hc dX9_granaryBuys_8 rfl ?_
    refine j_get hc dX9_granaryBuys_9 fX9_9 zT rfl ?_
    refine j_get hc dX9_granaryBuys_12 fX9_41 zp50 rfl ?_
    refine j_get hc dX9_granaryBuys_15 fX9_67 hL.1 rfl ?_
    refine j_icmp_ge (tgt := 89) hc dX9_granaryBuys_18 (by decide) ⟨by omega, by omega⟩ ⟨by omega, by omega⟩ (fun zc1 => ?_) (fun zc1 => ?_)
    · refine j_iload_n hc dX9_granaryBuys_89 rfl ?_
      refine j_zret hc he dX9_granaryBuys_90 rfl (by omega) (by omega) (by rcases hbo with hbo | hbo; exact Or.inl hbo.1; exact Or.inr hbo.1) ?_
      refine ⟨_, rfl, ⟨bo, rfl, by rcases hbo with hbo | hbo; exact Or.inl hbo.1; exact Or.inr hbo.1, ?_⟩, ?_, hfr⟩
      · rcases hbo with ⟨zb, ze⟩ | ⟨zb, ze⟩
        · refine ⟨fun z => by omega, fun z => ?_⟩
          have zz := hB.mp z
          rw [← ze] at zz
          have z1 : q < yGr E := zz.1
          have z2 : prS D br < yBuy E := zz.2.1
          have z3 : 0 < br := zz.2.2
          omega
        · exact ⟨fun _ => ze, fun _ => zb⟩
      · rw [← hgb]
        have zend : gbN D (yBuy E) (yGr E) (yGr E - q).toNat (br, q, pd) = (br, q, pd) := by
          cases zc : (yGr E - q).toNat with
          | zero => rfl
          | succ m =>
            simp only [gbN]
            rw [if_neg (by omega)]
        rw [zend]
        exact zT
    · refine j_aload_n hc dX9_granaryBuys_21 rfl ?_
      refine j_callV (d' := d - 1) hc dX9_granaryBuys_22 vX9_70 zT (ev_X9_priceNow (by omega) hL hD zp50 zT ⟨by omega, by omega⟩) rfl (by omega) (by omega) (by omega) rfl rfl (Nat.le_of_ble_eq_true rfl) (ret1 ?_)
      refine j_aload_n hc dX9_granaryBuys_25 rfl ?_
      refine j_get hc dX9_granaryBuys_26 fX9_9 zT rfl ?_
      refine j_get hc dX9_granaryBuys_29 fX9_41 zp50 rfl ?_
      refine j_get hc dX9_granaryBuys_32 fX9_74 hL.1 rfl ?_
      refine j_icmp_ge (tgt := 89) hc dX9_granaryBuys_35 (by decide) ⟨by omega, by omega⟩ ⟨by omega, by omega⟩ (fun zc2 => ?_) (fun zc2 => ?_)
      · refine j_iload_n hc dX9_granaryBuys_89 rfl ?_
        refine j_zret hc he dX9_granaryBuys_90 rfl (by omega) (by omega) (by rcases hbo with hbo | hbo; exact Or.inl hbo.1; exact Or.inr hbo.1) ?_
        refine ⟨_, rfl, ⟨bo, rfl, by rcases hbo with hbo | hbo; exact Or.inl hbo.1; exact Or.inr hbo.1, ?_⟩, ?_, hfr⟩
        · rcases hbo with ⟨zb, ze⟩ | ⟨zb, ze⟩
          · refine ⟨fun z => by omega, fun z => ?_⟩
            have zz := hB.mp z
            rw [← ze] at zz
            have z1 : q < yGr E := zz.1
            have z2 : prS D br < yBuy E := zz.2.1
            have z3 : 0 < br := zz.2.2
            omega
          · exact ⟨fun _ => ze, fun _ => zb⟩
        · rw [← hgb]
          have zend : gbN D (yBuy E) (yGr E) (yGr E - q).toNat (br, q, pd) = (br, q, pd) := by
            cases zc : (yGr E - q).toNat with
            | zero => rfl
            | succ m =>
              simp only [gbN]
              rw [if_neg (by omega)]
          rw [zend]
          exact zT
      · refine j_aload_n hc dX9_granaryBuys_38 rfl ?_
        refine j_get hc dX9_granaryBuys_39 fX9_51 zT rfl ?_
        refine j_if_gt (b := 0) (tgt := 48) hc dX9_granaryBuys_42 (by decide) ⟨by omega, by omega⟩ (fun zc3 => ?_) (fun zc3 => ?_)
        · refine j_aload_n hc dX9_granaryBuys_48 rfl ?_
          refine j_dup hc dX9_granaryBuys_49 rfl ?_
          refine j_get hc dX9_granaryBuys_50 fX9_26 zT rfl ?_
          refine j_aload_n hc dX9_granaryBuys_53 rfl ?_
          refine j_callV (d' := d - 1) hc dX9_granaryBuys_54 vX9_70 zT (ev_X9_priceNow (by omega) hL hD zp50 zT ⟨by omega, by omega⟩) rfl (by omega) (by omega) (by omega) rfl rfl (Nat.le_of_ble_eq_true rfl) (ret1 ?_)
          refine j_iadd hc dX9_granaryBuys_57 ?_
          refine j_put (fs' := [_, _, _, _, _, _, _, _]) hc dX9_granaryBuys_58 pX9_26 zT rfl rfl ?_
          generalize ezh1 : up _ _ _ = zh1
          have zzland_zh1 := LandAt.mv ezh1 (by simp) hL
          have zP_zh1 := (congrFun ezh1 _).symm.trans ((up_ne (by simp)).trans zp50)
          have zT_zh1 := (congrFun ezh1 _).symm.trans (up_same _ _ _)
          refine j_aload_n hc dX9_granaryBuys_61 rfl ?_
          refine j_dup hc dX9_granaryBuys_62 rfl ?_
          refine j_get hc dX9_granaryBuys_63 fX9_51 zT_zh1 rfl ?_
          refine j_iconst hc dX9_granaryBuys_66 ?_
          refine j_isub hc dX9_granaryBuys_67 ?_
          refine j_put (fs' := [_, _, _, _, _, _, _, _]) hc dX9_granaryBuys_68 pX9_51 zT_zh1 rfl rfl ?_
          generalize ezh2 : up _ _ _ = zh2
          have zzland_zh2 := LandAt.mv ezh2 (by simp) zzland_zh1
          have zP_zh2 := (congrFun ezh2 _).symm.trans ((up_ne (by simp)).trans zP_zh1)
          have zT_zh2 := (congrFun ezh2 _).symm.trans (up_same _ _ _)
          refine j_aload_n hc dX9_granaryBuys_71 rfl ?_
          refine j_dup hc dX9_granaryBuys_72 rfl ?_
          refine j_get hc dX9_granaryBuys_73 fX9_23 zT_zh2 rfl ?_
          refine j_iconst hc dX9_granaryBuys_76 ?_
          refine j_iadd hc dX9_granaryBuys_77 ?_
          refine j_put (fs' := [_, _, _, _, _, _, _, _]) hc dX9_granaryBuys_78 pX9_23 zT_zh2 rfl rfl ?_
          generalize ezh3 : up _ _ _ = zh3
          have zzland_zh3 := LandAt.mv ezh3 (by simp) zzland_zh2
          have zP_zh3 := (congrFun ezh3 _).symm.trans ((up_ne (by simp)).trans zP_zh2)
          have zT_zh3 := (congrFun ezh3 _).symm.trans (up_same _ _ _)
          refine j_iconst hc dX9_granaryBuys_81 ?_
          refine j_istore_n (L' := [_, _, _]) hc dX9_granaryBuys_82 (Nat.le_of_ble_eq_true rfl) rfl ?_
          refine j_iinc (L' := [_, _, _]) hc dX9_granaryBuys_83 rfl (Nat.le_of_ble_eq_true rfl) rfl ?_
          refine j_goto (tgt := 7) hc dX9_granaryBuys_86 (by decide) ?_
          have zg := hgb
          rw [show (yGr E - q).toNat = (yGr E - (q + 1)).toNat + 1 by omega] at zg
          simp only [gbN] at zg
          rw [if_pos ⟨by omega, by omega, by omega⟩] at zg
          exact ih _ (by omega) 1 (q + 1) _ _ _ rfl (by omega) (by omega) (by omega) (by omega) zzland_zh3 zP_zh3 zT_zh3 (by rw [← ezh3, ← ezh2, ← ezh1]; exact (((hfr).push rfl).push rfl).push rfl) zg (Or.inr ⟨rfl, by
            rcases hbo with ⟨_, ze⟩ | ⟨_, ze⟩
            · exact hB.mpr (by rw [← ze]; exact ⟨by show q < _; omega, by show prS D br < _; omega, by show 0 < br; omega⟩)
            · exact ze⟩)
        · refine j_goto (tgt := 89) hc dX9_granaryBuys_45 (by decide) ?_
          refine j_iload_n hc dX9_granaryBuys_89 rfl ?_
          refine j_zret hc he dX9_granaryBuys_90 rfl (by omega) (by omega) (by rcases hbo with hbo | hbo; exact Or.inl hbo.1; exact Or.inr hbo.1) ?_
          refine ⟨_, rfl, ⟨bo, rfl, by rcases hbo with hbo | hbo; exact Or.inl hbo.1; exact Or.inr hbo.1, ?_⟩, ?_, hfr⟩
          · rcases hbo with ⟨zb, ze⟩ | ⟨zb, ze⟩
            · refine ⟨fun z => by omega, fun z => ?_⟩
              have zz := hB.mp z
              rw [← ze] at zz
              have z1 : q < yGr E := zz.1
              have z2 : prS D br < yBuy E := zz.2.1
              have z3 : 0 < br := zz.2.2
              omega
            · exact ⟨fun _ => ze, fun _ => zb⟩
          · rw [← hgb]
            have zend : gbN D (yBuy E) (yGr E) (yGr E - q).toNat (br, q, pd) = (br, q, pd) := by
              cases zc : (yGr E - q).toNat with
              | zero => rfl
              | succ m =>
                simp only [gbN]
                rw [if_neg (by omega)]
            rw [zend]
            exact zT
set_option maxRecDepth 100000 in
set_option maxHeartbeats 4000000 in
theorem ev_X9_granaryBuys {k : WC} {d : Nat} {h : AH} {l : Int} {D : LaS} {E : LaY} {pl : Int → Option Nm} {i sr cs : Int} {wf : Option Nm} {gn rn : Nm} {t am ke br st pd fb : Int} (hd : 3 ≤ d) (hL : LandAt h l D E pl) (hD : LOK D) (hE : YOK E) (zp50 : h (50, i) = some (oO 2 (pF i l sr cs wf gn))) (zT : h (19, t) = some (oO 8 (twF i am ke br st pd rn fb))) (hb0 : 0 ≤ br) (hb1 : br ≤ 40) (hs0 : 0 ≤ st) (hs1 : st ≤ 20) : Ev k d mdX9_granaryBuys h [vR (19, t)] 0 0 (pe fun v h' => (∃ bo : Int, v = vI bo ∧ (bo = 0 ∨ bo = 1) ∧ (bo = 1 ↔ gbB D (yBuy E) (yGr E) (br, st, pd))) ∧ h' (19, t) = some (oO 8 (twF i am ke ((gbN D (yBuy E) (yGr E) (yGr E - st).toNat (br, st, pd)).1) ((gbN D (yBuy E) (yGr E) (yGr E - st).toNat (br, st, pd)).2.1) ((gbN D (yBuy E) (yGr E) (yGr E - st).toNat (br, st, pd)).2.2) rn fb)) ∧ Fr (fun z => z = (19, t)) h h') := by
  refine Ev.mk (by decide +kernel) [_, _, _] rfl (Nat.le_of_ble_eq_true rfl) (fun w hc he => ?_)
  refine j_iconst hc dX9_granaryBuys_0 ?_
  refine j_istore_n (L' := [_, _, _]) hc dX9_granaryBuys_1 (Nat.le_of_ble_eq_true rfl) rfl ?_
  refine j_aload_n hc dX9_granaryBuys_2 rfl ?_
  refine j_get hc dX9_granaryBuys_3 fX9_23 zT rfl ?_
  refine j_istore_n (L' := [_, _, _]) hc dX9_granaryBuys_6 (Nat.le_of_ble_eq_true rfl) rfl ?_
  exact lp_X9_granaryBuys (T0 := (br, st, pd)) hd hD hE Iff.rfl hc he _ 0 _ _ _ h rfl hs0 hs1 hb0 hb1 hL zp50 zT (Fr.rf _ _) rfl (Or.inl ⟨rfl, rfl⟩)
set_option maxRecDepth 100000 in
set_option maxHeartbeats 4000000 in
theorem lp_X9_granarySells {k : WC} {d : Nat} {w : MC} {h : AH} {l : Int} {D : LaS} {E : LaY} {pl : Int → Option Nm} {i sr cs : Int} {wf : Option Nm} {gn rn : Nm} {t am ke fb : Int} {T0 : Int × Int × Int} (hd : 3 ≤ d) (hD : LOK D) (hE : YOK E) (hc : Cx w k d 0 0 mdX9_granarySells) (he : Ends w 0 0 (pn fun h' => h' (19, t) = some (oO 8 (twF i am ke ((gsN D (ySell E) T0.2.1.toNat T0).1) ((gsN D (ySell E) T0.2.1.toNat T0).2.1) ((gsN D (ySell E) T0.2.1.toNat T0).2.2) rn fb)) ∧ Fr (fun z => z = (19, t)) h h')) : ∀ (zm : Nat) (q br pd : Int) (h' : AH), q.toNat = zm → 0 ≤ q → q ≤ 20 → 0 ≤ br → br + q ≤ 60 → LandAt h' l D E pl → h' (50, i) = some (oO 2 (pF i l sr cs wf gn)) → h' (19, t) = some (oO 8 (twF i am ke br q pd rn fb)) → Fr (fun z => z = (19, t)) h h' → gsN D (ySell E) q.toNat (br, q, pd) = gsN D (ySell E) T0.2.1.toNat T0 → J w 0 0 5 [some (vR (19, t)), some (vI q)] [] h' := by
  intro zm
  induction zm using Nat.strongRecOn with
  | _ zm ih =>
    intro q br pd h' hm hq0 hq1 hb0 hb1 hL zp50 zT hfr hgb
    obtain ⟨y1, y2, y3, y4, y5, y6, y7, -⟩ := id hE
    have zpr := prS_lo hD br
    refine j_iload_n hc dX9_granarySells_5 rfl ?_
    refine j_if_le (b := 0) (tgt := 68) hc dX9_granarySells_6 (by decide) ⟨by omega, by omega⟩ (fun zc1 => ?_) (fun zc1 => ?_)
    · exact j_vret hc he dX9_granarySells_68 rfl (by omega) (by omega) (by
        have zend : gsN D (ySell E) q.toNat (br, q, pd) = (br, q, pd) := by
          cases zc : q.toNat with
          | zero => rfl
          | succ m =>
            simp only [gsN]
            rw [if_neg (by omega)]
        rw [← hgb, zend]
        exact ⟨rfl, zT, hfr⟩)
    · refine j_aload_n hc dX9_granarySells_9 rfl ?_
      refine j_callV (d' := d - 1) hc dX9_granarySells_10 vX9_70 zT (ev_X9_priceNow (by omega) hL hD zp50 zT ⟨by omega, by omega⟩) rfl (by omega) (by omega) (by omega) rfl rfl (Nat.le_of_ble_eq_true rfl) (ret1 ?_)
      refine j_aload_n hc dX9_granarySells_13 rfl ?_
      refine j_get hc dX9_granarySells_14 fX9_9 zT rfl ?_
      refine j_get hc dX9_granarySells_17 fX9_41 zp50 rfl ?_
      refine j_get hc dX9_granarySells_20 fX9_77 hL.1 rfl ?_
      refine j_icmp_gt (tgt := 29) hc dX9_granarySells_23 (by decide) ⟨by omega, by omega⟩ ⟨by omega, by omega⟩ (fun zc2 => ?_) (fun zc2 => ?_)
      · refine j_aload_n hc dX9_granarySells_29 rfl ?_
        refine j_dup hc dX9_granarySells_30 rfl ?_
        refine j_get hc dX9_granarySells_31 fX9_26 zT rfl ?_
        refine j_aload_n hc dX9_granarySells_34 rfl ?_
        refine j_callV (d' := d - 1) hc dX9_granarySells_35 vX9_70 zT (ev_X9_priceNow (by omega) hL hD zp50 zT ⟨by omega, by omega⟩) rfl (by omega) (by omega) (by omega) rfl rfl (Nat.le_of_ble_eq_true rfl) (ret1 ?_)
        refine j_isub hc dX9_granarySells_38 ?_
        refine j_put (fs' := [_, _, _, _, _, _, _, _]) hc dX9_granarySells_39 pX9_26 zT rfl rfl ?_
        generalize ezh1 : up _ _ _ = zh1
        have zzland_zh1 := LandAt.mv ezh1 (by simp) hL
        have zP_zh1 := (congrFun ezh1 _).symm.trans ((up_ne (by simp)).trans zp50)
        have zT_zh1 := (congrFun ezh1 _).symm.trans (up_same _ _ _)
        refine j_aload_n hc dX9_granarySells_42 rfl ?_
        refine j_dup hc dX9_granarySells_43 rfl ?_
        refine j_get hc dX9_granarySells_44 fX9_51 zT_zh1 rfl ?_
        refine j_iconst hc dX9_granarySells_47 ?_
        refine j_iadd hc dX9_granarySells_48 ?_
        refine j_put (fs' := [_, _, _, _, _, _, _, _]) hc dX9_granarySells_49 pX9_51 zT_zh1 rfl rfl ?_
        generalize ezh2 : up _ _ _ = zh2
        have zzland_zh2 := LandAt.mv ezh2 (by simp) zzland_zh1
        have zP_zh2 := (congrFun ezh2 _).symm.trans ((up_ne (by simp)).trans zP_zh1)
        have zT_zh2 := (congrFun ezh2 _).symm.trans (up_same _ _ _)
        refine j_aload_n hc dX9_granarySells_52 rfl ?_
        refine j_dup hc dX9_granarySells_53 rfl ?_
        refine j_get hc dX9_granarySells_54 fX9_23 zT_zh2 rfl ?_
        refine j_iconst hc dX9_granarySells_57 ?_
        refine j_isub hc dX9_granarySells_58 ?_
        refine j_put (fs' := [_, _, _, _, _, _, _, _]) hc dX9_granarySells_59 pX9_23 zT_zh2 rfl rfl ?_
        generalize ezh3 : up _ _ _ = zh3
        have zzland_zh3 := LandAt.mv ezh3 (by simp) zzland_zh2
        have zP_zh3 := (congrFun ezh3 _).symm.trans ((up_ne (by simp)).trans zP_zh2)
        have zT_zh3 := (congrFun ezh3 _).symm.trans (up_same _ _ _)
        refine j_iinc (L' := [_, _]) hc dX9_granarySells_62 rfl (Nat.le_of_ble_eq_true rfl) rfl ?_
        refine j_goto (tgt := 5) hc dX9_granarySells_65 (by decide) ?_
        have zg := hgb
        rw [show q.toNat = (q - 1).toNat + 1 by omega] at zg
        simp only [gsN] at zg
        rw [if_pos ⟨by omega, by omega⟩] at zg
        exact ih _ (by omega) (q - 1) _ _ _ rfl (by omega) (by omega) (by omega) (by omega) zzland_zh3 zP_zh3 zT_zh3 (by rw [← ezh3, ← ezh2, ← ezh1]; exact (((hfr).push rfl).push rfl).push rfl) zg
      · refine j_goto (tgt := 68) hc dX9_granarySells_26 (by decide) ?_
        exact j_vret hc he dX9_granarySells_68 rfl (by omega) (by omega) (by
          have zend : gsN D (ySell E) q.toNat (br, q, pd) = (br, q, pd) := by
            cases zc : q.toNat with
            | zero => rfl
            | succ m =>
              simp only [gsN]
              rw [if_neg (by omega)]
          rw [← hgb, zend]
          exact ⟨rfl, zT, hfr⟩)
set_option maxRecDepth 100000 in
set_option maxHeartbeats 4000000 in
theorem ev_X9_granarySells {k : WC} {d : Nat} {h : AH} {l : Int} {D : LaS} {E : LaY} {pl : Int → Option Nm} {i sr cs : Int} {wf : Option Nm} {gn rn : Nm} {t am ke br st pd fb : Int} (hd : 3 ≤ d) (hL : LandAt h l D E pl) (hD : LOK D) (hE : YOK E) (zp50 : h (50, i) = some (oO 2 (pF i l sr cs wf gn))) (zT : h (19, t) = some (oO 8 (twF i am ke br st pd rn fb))) (hb0 : 0 ≤ br) (hb1 : br ≤ 40) (hs0 : 0 ≤ st) (hs1 : st ≤ 20) : Ev k d mdX9_granarySells h [vR (19, t)] 0 0 (pn fun h' => h' (19, t) = some (oO 8 (twF i am ke ((gsN D (ySell E) st.toNat (br, st, pd)).1) ((gsN D (ySell E) st.toNat (br, st, pd)).2.1) ((gsN D (ySell E) st.toNat (br, st, pd)).2.2) rn fb)) ∧ Fr (fun z => z = (19, t)) h h') := by
  refine Ev.mk (by decide +kernel) [_, _] rfl (Nat.le_of_ble_eq_true rfl) (fun w hc he => ?_)
  refine j_aload_n hc dX9_granarySells_0 rfl ?_
  refine j_get hc dX9_granarySells_1 fX9_23 zT rfl ?_
  refine j_istore_n (L' := [_, _]) hc dX9_granarySells_4 (Nat.le_of_ble_eq_true rfl) rfl ?_
  exact lp_X9_granarySells (T0 := (br, st, pd)) hd hD hE hc he _ _ _ _ h rfl hs0 hs1 hb0 (by omega) hL zp50 zT (Fr.rf _ _) rfl
def gtT (D : LaS) (E : LaY) (sr : Int) (t : Int × Int × Int) : Int × Int × Int := if sr = 3 then t else gtS D E t
set_option maxRecDepth 100000 in
set_option maxHeartbeats 4000000 in
theorem ev_X9_tradeWithGranary {k : WC} {d : Nat} {h : AH} {l : Int} {D : LaS} {E : LaY} {pl : Int → Option Nm} {i sr cs : Int} {wf : Option Nm} {gn rn : Nm} {t am ke br st pd fb : Int} (hd : 4 ≤ d) (hL : LandAt h l D E pl) (hD : LOK D) (hE : YOK E) (zp50 : h (50, i) = some (oO 2 (pF i l sr cs wf gn))) (zT : h (19, t) = some (oO 8 (twF i am ke br st pd rn fb))) (hb0 : 0 ≤ br) (hb1 : br ≤ 40) (hs0 : 0 ≤ st) (hs1 : st ≤ 20) (hsr0 : 0 ≤ sr) (hsr1 : sr ≤ 4) : Ev k d mdX9_tradeWithGranary h [vR (19, t)] 0 0 (pn fun h' => h' (19, t) = some (oO 8 (twF i am ke ((gtT D E sr (br, st, pd)).1) ((gtT D E sr (br, st, pd)).2.1) ((gtT D E sr (br, st, pd)).2.2) rn fb)) ∧ Fr (fun z => z = (19, t)) h h') := by
  refine Ev.mk (by decide +kernel) [_] rfl (Nat.le_of_ble_eq_true rfl) (fun w hc he => ?_)
  refine j_aload_n hc dX9_tradeWithGranary_0 rfl ?_
  refine j_get hc dX9_tradeWithGranary_1 fX9_9 zT rfl ?_
  refine j_get hc dX9_tradeWithGranary_4 fX9_57 zp50 rfl ?_
  refine j_iconst hc dX9_tradeWithGranary_7 ?_
  refine j_icmp_eq (tgt := 22) hc dX9_tradeWithGranary_8 (by decide) ⟨by omega, by omega⟩ ⟨by omega, by omega⟩ (fun zc1 => ?_) (fun zc1 => ?_)
  · exact j_vret hc he dX9_tradeWithGranary_22 rfl (by omega) (by omega) ⟨rfl, by unfold gtT; rw [if_pos (by assumption)]; exact zT, Fr.rf _ _⟩
  · refine j_aload_n hc dX9_tradeWithGranary_11 rfl ?_
    refine j_callV (d' := d - 1) hc dX9_tradeWithGranary_12 vX9_60 zT (ev_X9_granaryBuys (by omega) hL hD hE zp50 zT hb0 hb1 hs0 hs1) rfl (by omega) (by omega) (by omega) rfl rfl (Nat.le_of_ble_eq_true rfl) (retE fun zv12 zq12 zp12 => ?_)
    obtain ⟨⟨bo, zv, zb01, zbb⟩, zT12, zF12⟩ := zp12
    subst zv
    have zzland_q12 := LandAt.fr (fun zj z0 z1 => zF12 (zj, l) (by first | (simp; done) | (simp; omega))) hL
    have zP_q12 := (zF12 _ (by first | (simp; done) | (simp; omega))).trans zp50
    refine j_if_ne (b := 0) (tgt := 22) hc dX9_tradeWithGranary_15 (by decide) ⟨by omega, by omega⟩ (fun zc2 => ?_) (fun zc2 => ?_)
    · exact j_vret hc he dX9_tradeWithGranary_22 rfl (by omega) (by omega) (by
        have zyb := zbb.mp (by omega)
        refine ⟨rfl, ?_, zF12⟩
        unfold gtT gtS
        rw [if_neg (by assumption), if_pos zyb]
        exact zT12)
    · have zT12b : zq12 (19, t) = some (oO 8 (twF i am ke br st pd rn fb)) := by
        have zend : gbN D (yBuy E) (yGr E) (yGr E - st).toNat (br, st, pd) = (br, st, pd) := by
          cases zc : (yGr E - st).toNat with
          | zero => rfl
          | succ m =>
            simp only [gbN]
            rw [if_neg (fun z => by have := zbb.mpr z; omega)]
        rw [zT12, zend]
      refine j_aload_n hc dX9_tradeWithGranary_18 rfl ?_
      refine j_callV (d' := d - 1) hc dX9_tradeWithGranary_19 vX9_64 zT12 (ev_X9_granarySells (by omega) zzland_q12 hD hE zP_q12 zT12b hb0 hb1 hs0 hs1) rfl (by omega) (by omega) (by omega) rfl rfl (Nat.le_of_ble_eq_true rfl) (retN fun zq19 zp19 => ?_)
      obtain ⟨zT19, zF19⟩ := zp19
      exact j_vret hc he dX9_tradeWithGranary_22 rfl (by omega) (by omega) (by
        have znb : ¬ gbB D (yBuy E) (yGr E) (br, st, pd) := fun z => by have := zbb.mpr z; omega
        refine ⟨rfl, ?_, zF12.tr zF19⟩
        unfold gtT gtS
        rw [if_neg (by assumption), if_neg znb]
        exact zT19)
set_option maxRecDepth 100000 in
set_option maxHeartbeats 4000000 in
theorem ev_X9_init {k : WC} {d : Nat} {h : AH} {n : Nm} {fs : List AV} (hd : 2 ≤ d) (zT : h n = some (oO 8 fs)) : Ev k d mdX9_init h [vR n] 0 0 (pvd h) := by
  refine Ev.mk (by decide +kernel) [_] rfl (Nat.le_of_ble_eq_true rfl) (fun w hc he => ?_)
  refine j_aload_n hc dX9_init_0 rfl ?_
  refine j_objInit hc dX9_init_1 voX9_3 vo_inst vo_code rfl (by omega) (Nat.le_of_ble_eq_true rfl) ?_
  exact j_vret hc he dX9_init_4 rfl (by omega) (by omega) ⟨rfl, rfl⟩
