/-! ===== the law: from its start ===== -/
set_option maxRecDepth 100000 in
set_option maxHeartbeats 4000000 in
theorem law_run {w : MC} {k : WC} {d n : Nat} {xs : Nat → Int32} (hd : 310 ≤ d) (hn : n ≤ 4608) (hntr : k.1.stackTraces = false) (hc : Cx w k d 601024 7293034 mdL_law) (hsc : Sc w n xs) (hend : ∀ (m1 m2 : Nat) (L : List (Option AV)) (h : AH), L.length = 7 → m1 ≤ 601024 → m2 ≤ 7293034 → JL w m1 m2 2059 L [vI 1] h) : JL w 0 0 0 [none, none, none, none, none, none, none] [] (fun _ => none) := by
  refine l_newq (nm := (0, 0)) (zq := 13) rfl hc dL_law_0 wL_8 rfl (by omega) (by omega) ?_
  generalize ezh1 : up _ _ _ = zh1
  have zB1 := (congrFun ezh1 _).symm.trans (up_same _ _ _)
  have zf1 : ∀ z : Nm, z ≠ (0, 0) → zh1 z = none := fun z hz => (congrFun ezh1 _).symm.trans (up_ne hz)
  refine l_dup hc dL_law_3 rfl ?_
  refine l_callI (d' := d - 1) hc dL_law_4 iL_23 (ev_X10_init (by omega) zB1 (fun z hz _ => zf1 z hz)) rfl (by omega) (by omega) (by omega) rfl rfl (Nat.le_of_ble_eq_true rfl) (l_retN fun zq1 zp1 => ?_)
  obtain ⟨zB2, zF2⟩ := zp1
  have zf2 : ∀ z : Nm, 70 ≤ z.1 → zq1 z = none := fun z hz => (zF2 z (by show ¬ (z.1 < 70); omega)).trans (zf1 z (fun y => by rw [y] at hz; exact absurd hz (by decide)))
  refine l_astore_n (L' := [_, _, _, _, _, _, _]) hc dL_law_7 (Nat.le_of_ble_eq_true rfl) (by decide) rfl ?_
  refine l_newq (nm := (70, 0)) (zq := 49) rfl hc dL_law_8 wL_24 (zf2 _ (by decide)) (by omega) (by omega) ?_
  generalize ezh3 : up _ _ _ = zh3
  have zM3 := (congrFun ezh3 _).symm.trans (up_same _ _ _)
  have zB3 : BarnAt zh3 bS0 := zB2.fr (fun z hz => by rw [← ezh3]; exact up_ne (fun y => by rw [y] at hz; exact absurd hz (by decide)))
  have zf3 : FrN zh3 71 := fun z hz => (congrFun ezh3 _).symm.trans ((up_ne (fun y => by rw [y] at hz; exact absurd hz (by decide))).trans (zf2 z (by omega)))
  refine l_dup hc dL_law_11 rfl ?_
  refine l_callI (d' := d - 1) hc dL_law_12 iL_26 (ev_X11_init (by omega) zM3 (fun z hz => zf3 z (by omega))) rfl (by omega) (by omega) (by omega) rfl rfl (Nat.le_of_ble_eq_true rfl) (l_retN fun zq4 zp4 => ?_)
  obtain ⟨zM4, zF4⟩ := zp4
  have zB4 := zB3.mo zF4
  have zf4 : zq4 (99, 0) = none := (zF4 _ (by intro y; rcases y with y | y <;> revert y <;> decide)).trans (zf3 _ (by decide))
  refine l_astore_n (L' := [_, _, _, _, _, _, _]) hc dL_law_15 (Nat.le_of_ble_eq_true rfl) (by decide) rfl ?_
  refine l_iconst hc dL_law_16 ?_
  refine l_newL (nm := (99, 0)) hc dL_law_17 ka_long zf4 (by omega) (by omega) (by omega) (by omega) ?_
  generalize ezh5 : up _ _ _ = zh5
  have zO5 := (congrFun ezh5 _).symm.trans (up_same _ _ _)
  have zB5 : BarnAt zh5 bS0 := zB4.fr (fun z hz => by rw [← ezh5]; exact up_ne (fun y => by rw [y] at hz; exact absurd hz (by decide)))
  have zM5 : ModAt zh5 bS0 0 := zM4.fr (fun z hz => by rw [← ezh5]; exact up_ne (fun y => by rw [y] at hz; revert hz; decide))
  refine l_astore_n (L' := [_, _, _, _, _, _, _]) hc dL_law_19 (Nat.le_of_ble_eq_true rfl) (by decide) rfl ?_
  refine l_iconst hc dL_law_20 ?_
  refine l_istore (L' := [_, _, _, _, _, _, _]) hc dL_law_21 (Nat.le_of_ble_eq_true rfl) (by decide) rfl ?_
  exact l_widen (n1' := 200 + 20 * 0) (n2' := 70000 + 10000 * 0) (by omega) (by omega) (lp_law hd hn hntr hc hsc hend 512 0 bS0 0 _ _ none none rfl (by omega) ⟨zB5, zM5, zO5⟩)
