/-! ===== tape, readers and rules are made ===== -/
set_option maxRecDepth 100000 in
set_option maxHeartbeats 4000000 in
theorem ev_X8_init {k : WC} {d : Nat} {h : AH} (hd : 2 ≤ d) (zT : h (1, 0) = some (oO 7 [vN, vI 0])) (q2 : h (2, 0) = none) : Ev k d mdX8_init h [vR (1, 0)] 1 240 (pn fun h' => TpA h' (fun _ => 0) 0 ∧ Fr isTape h h') := by
  refine Ev.mk (by decide +kernel) [_] rfl (Nat.le_of_ble_eq_true rfl) (fun w hc he => ?_)
  refine j_aload_n hc dX8_init_0 rfl ?_
  refine j_objInit hc dX8_init_1 voX8_3 vo_inst vo_code rfl (by omega) (Nat.le_of_ble_eq_true rfl) ?_
  refine j_aload_n hc dX8_init_4 rfl ?_
  refine j_sipush hc dX8_init_5 (by decide) ?_
  refine j_newI (nm := (2, 0)) hc dX8_init_8 ka_int q2 (by omega) (by omega) (by omega) (by omega) ?_
  generalize ezh1 : up _ _ _ = zh1
  have zT_zh1 := (congrFun ezh1 _).symm.trans ((up_ne (by simp)).trans zT)
  have zT2_zh1 := (congrFun ezh1 _).symm.trans (up_same _ _ _)
  refine j_putF (fs' := [_, _]) hc dX8_init_10 pX8_9 rfl zT_zh1 rfl rfl ?_
  generalize ezh2 : up _ _ _ = zh2
  have zT_zh2 := (congrFun ezh2 _).symm.trans (up_same _ _ _)
  have zT2_zh2 := (congrFun ezh2 _).symm.trans ((up_ne (by simp)).trans zT2_zh1)
  exact j_vret hc he dX8_init_13 rfl (by omega) (by omega) ⟨rfl, ⟨zT_zh2, zT2_zh2⟩, by rw [← ezh2, ← ezh1]; exact ((Fr.rf isTape _).push (Or.inr rfl)).push (Or.inl rfl)⟩
set_option maxRecDepth 100000 in
set_option maxHeartbeats 4000000 in
theorem ev_X3_init_c1 {k : WC} {d : Nat} {h : AH} {rs : List AV} (hd : 2 ≤ d) (zQ : h (3, 0) = some (oO 1 (vN :: rs))) (zT : h (1, 0) ≠ none) : Ev k d mdX3_init h [vR (3, 0), vR (1, 0)] 0 0 (pn fun h' => h' (3, 0) = some (oO 1 (vR (1, 0) :: rs)) ∧ Fr (fun z => z = (3, 0)) h h') := by
  refine Ev.mk (by decide +kernel) [_, _] rfl (Nat.le_of_ble_eq_true rfl) (fun w hc he => ?_)
  refine j_aload_n hc dX3_init_0 rfl ?_
  refine j_objInit hc dX3_init_1 voX3_3 vo_inst vo_code rfl (by omega) (Nat.le_of_ble_eq_true rfl) ?_
  refine j_aload_n hc dX3_init_4 rfl ?_
  refine j_aload_n hc dX3_init_5 rfl ?_
  refine j_putF (fs' := _ :: rs) hc dX3_init_6 pX3_9_c1 rfl zQ rfl rfl ?_
  generalize ezh1 : up _ _ _ = zh1
  have zQ_zh1 := (congrFun ezh1 _).symm.trans (up_same _ _ _)
  exact j_vret hc he dX3_init_9 rfl (by omega) (by omega) ⟨rfl, zQ_zh1, by rw [← ezh1]; exact (Fr.rf (fun z => z = (3, 0)) _).push rfl⟩
set_option maxRecDepth 100000 in
set_option maxHeartbeats 4000000 in
theorem ev_X3_init_c4 {k : WC} {d : Nat} {h : AH} {rs : List AV} (hd : 2 ≤ d) (zQ : h (9, 0) = some (oO 4 (vN :: rs))) (zT : h (1, 0) ≠ none) : Ev k d mdX3_init h [vR (9, 0), vR (1, 0)] 0 0 (pn fun h' => h' (9, 0) = some (oO 4 (vR (1, 0) :: rs)) ∧ Fr (fun z => z = (9, 0)) h h') := by
  refine Ev.mk (by decide +kernel) [_, _] rfl (Nat.le_of_ble_eq_true rfl) (fun w hc he => ?_)
  refine j_aload_n hc dX3_init_0 rfl ?_
  refine j_objInit hc dX3_init_1 voX3_3 vo_inst vo_code rfl (by omega) (Nat.le_of_ble_eq_true rfl) ?_
  refine j_aload_n hc dX3_init_4 rfl ?_
  refine j_aload_n hc dX3_init_5 rfl ?_
  refine j_putF (fs' := _ :: rs) hc dX3_init_6 pX3_9_c4 rfl zQ rfl rfl ?_
  generalize ezh1 : up _ _ _ = zh1
  have zQ_zh1 := (congrFun ezh1 _).symm.trans (up_same _ _ _)
  exact j_vret hc he dX3_init_9 rfl (by omega) (by omega) ⟨rfl, zQ_zh1, by rw [← ezh1]; exact (Fr.rf (fun z => z = (9, 0)) _).push rfl⟩
set_option maxRecDepth 100000 in
set_option maxHeartbeats 4000000 in
theorem ev_X1_init {k : WC} {d : Nat} {h : AH} (hd : 3 ≤ d) (zQ : h (3, 0) = some (oO 1 [vN, vI 0, vI 0, vN, vN, vN, vN, vN, vI 0, vI 0, vI 0, vI 0, vI 0, vI 0, vI 0])) (zT : h (1, 0) ≠ none) (q : ∀ j : Nat, 4 ≤ j → j ≤ 8 → h (j, 0) = none) : Ev k d mdX1_init h [vR (3, 0), vR (1, 0)] 5 140 (pn fun h' => LrO h' 0 0 0 ((0, 0, 0, 0, 0, 0, fun _ => 0, fun _ => 0, fun _ => 0, fun _ => 0, fun _ => 0) : DrS) ∧ LrA h' ((0, 0, 0, 0, 0, 0, fun _ => 0, fun _ => 0, fun _ => 0, fun _ => 0, fun _ => 0) : DrS) ∧ Fr isLr h h') := by
  refine Ev.mk (by decide +kernel) [_, _] rfl (Nat.le_of_ble_eq_true rfl) (fun w hc he => ?_)
  refine j_aload_n hc dX1_init_0 rfl ?_
  refine j_aload_n hc dX1_init_1 rfl ?_
  refine j_callI (d' := d - 1) hc dX1_init_2 iX1_3 (ev_X3_init_c1 (by omega) zQ zT) rfl (by omega) (by omega) (by omega) rfl rfl (Nat.le_of_ble_eq_true rfl) (retN fun zq2 zp2 => ?_)
  obtain ⟨zQ2, zF2⟩ := zp2
  have zFQ4_q2 := (zF2 _ (by first | (simp; done) | (simp; omega))).trans (q 4 (by omega) (by omega))
  have zFQ5_q2 := (zF2 _ (by first | (simp; done) | (simp; omega))).trans (q 5 (by omega) (by omega))
  have zFQ6_q2 := (zF2 _ (by first | (simp; done) | (simp; omega))).trans (q 6 (by omega) (by omega))
  have zFQ7_q2 := (zF2 _ (by first | (simp; done) | (simp; omega))).trans (q 7 (by omega) (by omega))
  have zFQ8_q2 := (zF2 _ (by first | (simp; done) | (simp; omega))).trans (q 8 (by omega) (by omega))
  refine j_aload_n hc dX1_init_5 rfl ?_
  refine j_bipush hc dX1_init_6 (by decide) ?_
  refine j_newI (nm := (4, 0)) hc dX1_init_8 ka_int zFQ4_q2 (by omega) (by omega) (by omega) (by omega) ?_
  generalize ezh1 : up _ _ _ = zh1
  have zQ_zh1 := (congrFun ezh1 _).symm.trans ((up_ne (by simp)).trans zQ2)
  have zFQ5_zh1 := (congrFun ezh1 _).symm.trans ((up_ne (by simp)).trans zFQ5_q2)
  have zFQ6_zh1 := (congrFun ezh1 _).symm.trans ((up_ne (by simp)).trans zFQ6_q2)
  have zFQ7_zh1 := (congrFun ezh1 _).symm.trans ((up_ne (by simp)).trans zFQ7_q2)
  have zFQ8_zh1 := (congrFun ezh1 _).symm.trans ((up_ne (by simp)).trans zFQ8_q2)
  have zQ4_zh1 := (congrFun ezh1 _).symm.trans (up_same _ _ _)
  refine j_putF (fs' := [_, _, _, _, _, _, _, _, _, _, _, _, _, _, _]) hc dX1_init_10 pX1_9 rfl zQ_zh1 rfl rfl ?_
  generalize ezh2 : up _ _ _ = zh2
  have zQ_zh2 := (congrFun ezh2 _).symm.trans (up_same _ _ _)
  have zFQ5_zh2 := (congrFun ezh2 _).symm.trans ((up_ne (by simp)).trans zFQ5_zh1)
  have zFQ6_zh2 := (congrFun ezh2 _).symm.trans ((up_ne (by simp)).trans zFQ6_zh1)
  have zFQ7_zh2 := (congrFun ezh2 _).symm.trans ((up_ne (by simp)).trans zFQ7_zh1)
  have zFQ8_zh2 := (congrFun ezh2 _).symm.trans ((up_ne (by simp)).trans zFQ8_zh1)
  have zQ4_zh2 := (congrFun ezh2 _).symm.trans ((up_ne (by simp)).trans zQ4_zh1)
  refine j_aload_n hc dX1_init_13 rfl ?_
  refine j_iconst hc dX1_init_14 ?_
  refine j_newI (nm := (5, 0)) hc dX1_init_15 ka_int zFQ5_zh2 (by omega) (by omega) (by omega) (by omega) ?_
  generalize ezh3 : up _ _ _ = zh3
  have zQ_zh3 := (congrFun ezh3 _).symm.trans ((up_ne (by simp)).trans zQ_zh2)
  have zFQ6_zh3 := (congrFun ezh3 _).symm.trans ((up_ne (by simp)).trans zFQ6_zh2)
  have zFQ7_zh3 := (congrFun ezh3 _).symm.trans ((up_ne (by simp)).trans zFQ7_zh2)
  have zFQ8_zh3 := (congrFun ezh3 _).symm.trans ((up_ne (by simp)).trans zFQ8_zh2)
  have zQ4_zh3 := (congrFun ezh3 _).symm.trans ((up_ne (by simp)).trans zQ4_zh2)
  have zQ5_zh3 := (congrFun ezh3 _).symm.trans (up_same _ _ _)
  refine j_putF (fs' := [_, _, _, _, _, _, _, _, _, _, _, _, _, _, _]) hc dX1_init_17 pX1_15 rfl zQ_zh3 rfl rfl ?_
  generalize ezh4 : up _ _ _ = zh4
  have zQ_zh4 := (congrFun ezh4 _).symm.trans (up_same _ _ _)
  have zFQ6_zh4 := (congrFun ezh4 _).symm.trans ((up_ne (by simp)).trans zFQ6_zh3)
  have zFQ7_zh4 := (congrFun ezh4 _).symm.trans ((up_ne (by simp)).trans zFQ7_zh3)
  have zFQ8_zh4 := (congrFun ezh4 _).symm.trans ((up_ne (by simp)).trans zFQ8_zh3)
  have zQ4_zh4 := (congrFun ezh4 _).symm.trans ((up_ne (by simp)).trans zQ4_zh3)
  have zQ5_zh4 := (congrFun ezh4 _).symm.trans ((up_ne (by simp)).trans zQ5_zh3)
  refine j_aload_n hc dX1_init_20 rfl ?_
  refine j_iconst hc dX1_init_21 ?_
  refine j_newI (nm := (6, 0)) hc dX1_init_22 ka_int zFQ6_zh4 (by omega) (by omega) (by omega) (by omega) ?_
  generalize ezh5 : up _ _ _ = zh5
  have zQ_zh5 := (congrFun ezh5 _).symm.trans ((up_ne (by simp)).trans zQ_zh4)
  have zFQ7_zh5 := (congrFun ezh5 _).symm.trans ((up_ne (by simp)).trans zFQ7_zh4)
  have zFQ8_zh5 := (congrFun ezh5 _).symm.trans ((up_ne (by simp)).trans zFQ8_zh4)
  have zQ4_zh5 := (congrFun ezh5 _).symm.trans ((up_ne (by simp)).trans zQ4_zh4)
  have zQ5_zh5 := (congrFun ezh5 _).symm.trans ((up_ne (by simp)).trans zQ5_zh4)
  have zQ6_zh5 := (congrFun ezh5 _).symm.trans (up_same _ _ _)
  refine j_putF (fs' := [_, _, _, _, _, _, _, _, _, _, _, _, _, _, _]) hc dX1_init_24 pX1_18 rfl zQ_zh5 rfl rfl ?_
  generalize ezh6 : up _ _ _ = zh6
  have zQ_zh6 := (congrFun ezh6 _).symm.trans (up_same _ _ _)
  have zFQ7_zh6 := (congrFun ezh6 _).symm.trans ((up_ne (by simp)).trans zFQ7_zh5)
  have zFQ8_zh6 := (congrFun ezh6 _).symm.trans ((up_ne (by simp)).trans zFQ8_zh5)
  have zQ4_zh6 := (congrFun ezh6 _).symm.trans ((up_ne (by simp)).trans zQ4_zh5)
  have zQ5_zh6 := (congrFun ezh6 _).symm.trans ((up_ne (by simp)).trans zQ5_zh5)
  have zQ6_zh6 := (congrFun ezh6 _).symm.trans ((up_ne (by simp)).trans zQ6_zh5)
  refine j_aload_n hc dX1_init_27 rfl ?_
  refine j_bipush hc dX1_init_28 (by decide) ?_
  refine j_newI (nm := (7, 0)) hc dX1_init_30 ka_int zFQ7_zh6 (by omega) (by omega) (by omega) (by omega) ?_
  generalize ezh7 : up _ _ _ = zh7
  have zQ_zh7 := (congrFun ezh7 _).symm.trans ((up_ne (by simp)).trans zQ_zh6)
  have zFQ8_zh7 := (congrFun ezh7 _).symm.trans ((up_ne (by simp)).trans zFQ8_zh6)
  have zQ4_zh7 := (congrFun ezh7 _).symm.trans ((up_ne (by simp)).trans zQ4_zh6)
  have zQ5_zh7 := (congrFun ezh7 _).symm.trans ((up_ne (by simp)).trans zQ5_zh6)
  have zQ6_zh7 := (congrFun ezh7 _).symm.trans ((up_ne (by simp)).trans zQ6_zh6)
  have zQ7_zh7 := (congrFun ezh7 _).symm.trans (up_same _ _ _)
  refine j_putF (fs' := [_, _, _, _, _, _, _, _, _, _, _, _, _, _, _]) hc dX1_init_32 pX1_21 rfl zQ_zh7 rfl rfl ?_
  generalize ezh8 : up _ _ _ = zh8
  have zQ_zh8 := (congrFun ezh8 _).symm.trans (up_same _ _ _)
  have zFQ8_zh8 := (congrFun ezh8 _).symm.trans ((up_ne (by simp)).trans zFQ8_zh7)
  have zQ4_zh8 := (congrFun ezh8 _).symm.trans ((up_ne (by simp)).trans zQ4_zh7)
  have zQ5_zh8 := (congrFun ezh8 _).symm.trans ((up_ne (by simp)).trans zQ5_zh7)
  have zQ6_zh8 := (congrFun ezh8 _).symm.trans ((up_ne (by simp)).trans zQ6_zh7)
  have zQ7_zh8 := (congrFun ezh8 _).symm.trans ((up_ne (by simp)).trans zQ7_zh7)
  refine j_aload_n hc dX1_init_35 rfl ?_
  refine j_bipush hc dX1_init_36 (by decide) ?_
  refine j_newI (nm := (8, 0)) hc dX1_init_38 ka_int zFQ8_zh8 (by omega) (by omega) (by omega) (by omega) ?_
  generalize ezh9 : up _ _ _ = zh9
  have zQ_zh9 := (congrFun ezh9 _).symm.trans ((up_ne (by simp)).trans zQ_zh8)
  have zQ4_zh9 := (congrFun ezh9 _).symm.trans ((up_ne (by simp)).trans zQ4_zh8)
  have zQ5_zh9 := (congrFun ezh9 _).symm.trans ((up_ne (by simp)).trans zQ5_zh8)
  have zQ6_zh9 := (congrFun ezh9 _).symm.trans ((up_ne (by simp)).trans zQ6_zh8)
  have zQ7_zh9 := (congrFun ezh9 _).symm.trans ((up_ne (by simp)).trans zQ7_zh8)
  have zQ8_zh9 := (congrFun ezh9 _).symm.trans (up_same _ _ _)
  refine j_putF (fs' := [_, _, _, _, _, _, _, _, _, _, _, _, _, _, _]) hc dX1_init_40 pX1_24 rfl zQ_zh9 rfl rfl ?_
  generalize ezh10 : up _ _ _ = zh10
  have zQ_zh10 := (congrFun ezh10 _).symm.trans (up_same _ _ _)
  have zQ4_zh10 := (congrFun ezh10 _).symm.trans ((up_ne (by simp)).trans zQ4_zh9)
  have zQ5_zh10 := (congrFun ezh10 _).symm.trans ((up_ne (by simp)).trans zQ5_zh9)
  have zQ6_zh10 := (congrFun ezh10 _).symm.trans ((up_ne (by simp)).trans zQ6_zh9)
  have zQ7_zh10 := (congrFun ezh10 _).symm.trans ((up_ne (by simp)).trans zQ7_zh9)
  have zQ8_zh10 := (congrFun ezh10 _).symm.trans ((up_ne (by simp)).trans zQ8_zh9)
  exact j_vret hc he dX1_init_43 rfl (by omega) (by omega) ⟨rfl, zQ_zh10, ⟨zQ4_zh10, zQ5_zh10, zQ6_zh10, zQ7_zh10, zQ8_zh10⟩, (by rw [← ezh10]; exact Fr.push ((by rw [← ezh9]; exact Fr.push ((by rw [← ezh8]; exact Fr.push ((by rw [← ezh7]; exact Fr.push ((by rw [← ezh6]; exact Fr.push ((by rw [← ezh5]; exact Fr.push ((by rw [← ezh4]; exact Fr.push ((by rw [← ezh3]; exact Fr.push ((by rw [← ezh2]; exact Fr.push ((by rw [← ezh1]; exact Fr.push (Fr.tr (Fr.rf isLr _) (zF2.mono fun z zz => (by rw [zz]; decide))) (by decide))) (by decide))) (by decide))) (by decide))) (by decide))) (by decide))) (by decide))) (by decide))) (by decide))) (by decide))⟩
set_option maxRecDepth 100000 in
set_option maxHeartbeats 4000000 in
theorem ev_X5_init {k : WC} {d : Nat} {h : AH} (hd : 3 ≤ d) (zQ : h (9, 0) = some (oO 4 [vN, vI 0, vI 0, vN, vI 0])) (zT : h (1, 0) ≠ none) (q : h (10, 0) = none) : Ev k d mdX5_init h [vR (9, 0), vR (1, 0)] 1 482 (pn fun h' => RrO h' 0 0 0 (fun _ => 0) ∧ Fr isRr h h') := by
  refine Ev.mk (by decide +kernel) [_, _] rfl (Nat.le_of_ble_eq_true rfl) (fun w hc he => ?_)
  refine j_aload_n hc dX5_init_0 rfl ?_
  refine j_aload_n hc dX5_init_1 rfl ?_
  refine j_callI (d' := d - 1) hc dX5_init_2 iX5_3 (ev_X3_init_c4 (by omega) zQ zT) rfl (by omega) (by omega) (by omega) rfl rfl (Nat.le_of_ble_eq_true rfl) (retN fun zq2 zp2 => ?_)
  obtain ⟨zQ2, zF2⟩ := zp2
  have zFQ10_q2 := (zF2 _ (by first | (simp; done) | (simp; omega))).trans q
  refine j_aload_n hc dX5_init_5 rfl ?_
  refine j_sipush hc dX5_init_6 (by decide) ?_
  refine j_newI (nm := (10, 0)) hc dX5_init_9 ka_int zFQ10_q2 (by omega) (by omega) (by omega) (by omega) ?_
  generalize ezh1 : up _ _ _ = zh1
  have zQ_zh1 := (congrFun ezh1 _).symm.trans ((up_ne (by simp)).trans zQ2)
  have zQ10_zh1 := (congrFun ezh1 _).symm.trans (up_same _ _ _)
  refine j_putF (fs' := [_, _, _, _, _]) hc dX5_init_11 pX5_11 rfl zQ_zh1 rfl rfl ?_
  generalize ezh2 : up _ _ _ = zh2
  have zQ_zh2 := (congrFun ezh2 _).symm.trans (up_same _ _ _)
  have zQ10_zh2 := (congrFun ezh2 _).symm.trans ((up_ne (by simp)).trans zQ10_zh1)
  exact j_vret hc he dX5_init_14 rfl (by omega) (by omega) ⟨rfl, ⟨zQ_zh2, zQ10_zh2⟩, (by rw [← ezh2]; exact Fr.push ((by rw [← ezh1]; exact Fr.push (Fr.tr (Fr.rf isRr _) (zF2.mono fun z zz => (by rw [zz]; decide))) (by decide))) (by decide))⟩
set_option maxRecDepth 100000 in
set_option maxHeartbeats 4000000 in
theorem ev_J7_copyOf_59c91 {k : WC} {d : Nat} {h : AH} {n nm : Nm} {len : Nat} {f : Int → Int} {c : Int} (hd : 2 ≤ d) (zn : h n = some (oI len f)) (hlen : len ≤ 482) (qn : h nm = none) (hc0 : 0 ≤ c) (hc1 : c ≤ len) : Ev k d mdJ7_copyOf_59c91 h [vR n, vI c] 1 482 (pe fun v h' => v = vR nm ∧ (∃ g, h' nm = some (oI c.toNat g) ∧ ∀ j : Int, 0 ≤ j → j < c → g j = f j) ∧ Fr (fun z => z = nm) h h') := by
  have zne : n ≠ nm := fun e => by rw [e, qn] at zn; cases zn
  refine Ev.mk (by decide +kernel) [_, _, _] rfl (Nat.le_of_ble_eq_true rfl) (fun w hc he => ?_)
  refine j_iload_n hc dJ7_copyOf_59c91_0 rfl ?_
  refine j_aload_n hc dJ7_copyOf_59c91_1 rfl ?_
  refine j_alenP hc dJ7_copyOf_59c91_2 zn (by decide) ?_
  refine j_icmp_ne (tgt := 14) hc dJ7_copyOf_59c91_3 (by decide) ⟨by omega, by omega⟩ ⟨by omega, by omega⟩ (fun zc1 => ?_) (fun zc1 => ?_)
  · refine j_iload_n hc dJ7_copyOf_59c91_14 rfl ?_
    refine j_newI (nm := nm) hc dJ7_copyOf_59c91_15 ka_int qn (by omega) (by omega) (by omega) (by omega) ?_
    generalize ezh1 : up _ _ _ = zh1
    have zN_zh1 := (congrFun ezh1 _).symm.trans ((up_ne (by exact zne)).trans zn)
    have zM_zh1 := (congrFun ezh1 _).symm.trans (up_same _ _ _)
    refine j_astore_n (L' := [_, _, _]) hc dJ7_copyOf_59c91_17 (Nat.le_of_ble_eq_true rfl) rfl ?_
    refine j_aload_n hc dJ7_copyOf_59c91_18 rfl ?_
    refine j_iconst hc dJ7_copyOf_59c91_19 ?_
    refine j_aload_n hc dJ7_copyOf_59c91_20 rfl ?_
    refine j_iconst hc dJ7_copyOf_59c91_21 ?_
    refine j_aload_n hc dJ7_copyOf_59c91_22 rfl ?_
    refine j_alenP hc dJ7_copyOf_59c91_23 zN_zh1 (by decide) ?_
    refine j_iload_n hc dJ7_copyOf_59c91_24 rfl ?_
    refine j_mmin hc dJ7_copyOf_59c91_25 mJ7_304 mo_min ⟨by omega, by omega⟩ ⟨by omega, by omega⟩ (by omega) (by omega) rfl (by omega) (Nat.le_of_ble_eq_true rfl) ?_
    refine j_copyI hc dJ7_copyOf_59c91_28 mlJ7_150 zN_zh1 zM_zh1 (by omega) (by omega) (by omega) (by omega) rfl (Nat.le_of_ble_eq_true rfl) ?_
    generalize ezh2 : up _ _ _ = zh2
    have zN_zh2 := (congrFun ezh2 _).symm.trans ((up_ne (by exact zne)).trans zN_zh1)
    have zM_zh2 := (congrFun ezh2 _).symm.trans (up_same _ _ _)
    refine j_aload_n hc dJ7_copyOf_59c91_31 rfl ?_
    exact j_aret hc he dJ7_copyOf_59c91_32 rfl (by first | exact Or.inl ⟨_, rfl⟩ | exact Or.inr ⟨_, rfl⟩) (by omega) (by omega) ⟨_, rfl, rfl, ⟨_, zM_zh2, fun j j0 j1 => by unfold cpF; rw [if_pos (by omega)]⟩, by rw [← ezh2, ← ezh1]; exact ((Fr.rf (fun z => z = nm) _).push rfl).push rfl⟩
  · refine j_aload_n hc dJ7_copyOf_59c91_6 rfl ?_
    refine j_clone (nm := nm) hc dJ7_copyOf_59c91_7 mlJ7_316 zn qn (by omega) rfl (Nat.le_of_ble_eq_true rfl) (by omega) (by omega) ?_
    generalize ezh3 : up _ _ _ = zh3
    have zN_zh3 := (congrFun ezh3 _).symm.trans ((up_ne (by exact zne)).trans zn)
    have zM_zh3 := (congrFun ezh3 _).symm.trans (up_same _ _ _)
    refine j_castI hc dJ7_copyOf_59c91_10 clJ7_317 zM_zh3 ?_
    exact j_aret hc he dJ7_copyOf_59c91_13 rfl (by first | exact Or.inl ⟨_, rfl⟩ | exact Or.inr ⟨_, rfl⟩) (by omega) (by omega) ⟨_, rfl, rfl, ⟨_, zM_zh3.trans (by rw [show c.toNat = len by omega]), fun j _ _ => rfl⟩, by rw [← ezh3]; exact (Fr.rf (fun z => z = nm) _).push rfl⟩
set_option maxRecDepth 100000 in
set_option maxHeartbeats 4000000 in
theorem ev_X5_written {k : WC} {d : Nat} {h : AH} {i ff cl l : Int} {cf : Int → Int} (hd : 3 ≤ d) (zO : RrO h i ff cl cf) (qn : h (61, l) = none) (hc0 : 0 ≤ cl) (hc1 : cl ≤ 482) : Ev k d mdX5_written h [vR (9, 0)] 1 482 (pe fun v h' => v = vR (61, l) ∧ (∃ g, h' (61, l) = some (oI cl.toNat g) ∧ ∀ j : Int, 0 ≤ j → j < cl → g j = cf j) ∧ Fr (fun z => z = (61, l)) h h') := by
  refine Ev.mk (by decide +kernel) [_] rfl (Nat.le_of_ble_eq_true rfl) (fun w hc he => ?_)
  refine j_aload_n hc dX5_written_0 rfl ?_
  refine j_get hc dX5_written_1 fX5_11 zO.1 rfl ?_
  refine j_aload_n hc dX5_written_4 rfl ?_
  refine j_get hc dX5_written_5 fX5_15 zO.1 rfl ?_
  refine j_callS (d' := d - 1) hc dX5_written_8 sX5_35 (ev_J7_copyOf_59c91 (nm := (61, l)) (by omega) zO.2 (by omega) qn hc0 (by omega)) rfl (by omega) (by omega) (by omega) rfl rfl (Nat.le_of_ble_eq_true rfl) (retE fun zv8 zq8 zp8 => ?_)
  obtain ⟨zv8, zr8, zF8⟩ := zp8
  subst zv8
  exact j_aret hc he dX5_written_11 rfl (by first | exact Or.inl ⟨_, rfl⟩ | exact Or.inr ⟨_, rfl⟩) (by omega) (by omega) ⟨_, rfl, rfl, zr8, zF8⟩
set_option maxRecDepth 100000 in
set_option maxHeartbeats 4000000 in
theorem ev_X4_init {k : WC} {d : Nat} {h : AH} {l : Int} {cl : Nat} {cf : Int → Int} (hd : 2 ≤ d) (zU : h (60, l) = some (oO 3 [vN, vN, vN, vI 0])) (zC : h (61, l) = some (oI cl cf)) (q62 : h (62, l) = none) (q63 : h (63, l) = none) : Ev k d mdX4_init h [vR (60, l), vR (61, l)] 2 69 (pn fun h' => RuleAt h' l cl cf [] (fun _ => 0) ∧ Fr (isRule l) h h') := by
  refine Ev.mk (by decide +kernel) [_, _] rfl (Nat.le_of_ble_eq_true rfl) (fun w hc he => ?_)
  refine j_aload_n hc dX4_init_0 rfl ?_
  refine j_objInit hc dX4_init_1 voX4_3 vo_inst vo_code rfl (by omega) (Nat.le_of_ble_eq_true rfl) ?_
  refine j_aload_n hc dX4_init_4 rfl ?_
  refine j_aload_n hc dX4_init_5 rfl ?_
  refine j_putF (fs' := [_, _, _, _]) hc dX4_init_6 pX4_9 rfl zU rfl rfl ?_
  generalize ezh1 : up _ _ _ = zh1
  have zU_zh1 := (congrFun ezh1 _).symm.trans (up_same _ _ _)
  have zU61_zh1 := (congrFun ezh1 _).symm.trans ((up_ne (by simp)).trans zC)
  have zFU62_zh1 := (congrFun ezh1 _).symm.trans ((up_ne (by simp)).trans q62)
  have zFU63_zh1 := (congrFun ezh1 _).symm.trans ((up_ne (by simp)).trans q63)
  refine j_aload_n hc dX4_init_9 rfl ?_
  refine j_bipush hc dX4_init_10 (by decide) ?_
  refine j_newI (nm := (62, l)) hc dX4_init_12 ka_int zFU62_zh1 (by omega) (by omega) (by omega) (by omega) ?_
  generalize ezh2 : up _ _ _ = zh2
  have zU_zh2 := (congrFun ezh2 _).symm.trans ((up_ne (by simp)).trans zU_zh1)
  have zU61_zh2 := (congrFun ezh2 _).symm.trans ((up_ne (by simp)).trans zU61_zh1)
  have zFU63_zh2 := (congrFun ezh2 _).symm.trans ((up_ne (by simp)).trans zFU63_zh1)
  have zU62_zh2 := (congrFun ezh2 _).symm.trans (up_same _ _ _)
  refine j_putF (fs' := [_, _, _, _]) hc dX4_init_14 pX4_15 rfl zU_zh2 rfl rfl ?_
  generalize ezh3 : up _ _ _ = zh3
  have zU_zh3 := (congrFun ezh3 _).symm.trans (up_same _ _ _)
  have zU61_zh3 := (congrFun ezh3 _).symm.trans ((up_ne (by simp)).trans zU61_zh2)
  have zFU63_zh3 := (congrFun ezh3 _).symm.trans ((up_ne (by simp)).trans zFU63_zh2)
  have zU62_zh3 := (congrFun ezh3 _).symm.trans ((up_ne (by simp)).trans zU62_zh2)
  refine j_aload_n hc dX4_init_17 rfl ?_
  refine j_iconst hc dX4_init_18 ?_
  refine j_newI (nm := (63, l)) hc dX4_init_19 ka_int zFU63_zh3 (by omega) (by omega) (by omega) (by omega) ?_
  generalize ezh4 : up _ _ _ = zh4
  have zU_zh4 := (congrFun ezh4 _).symm.trans ((up_ne (by simp)).trans zU_zh3)
  have zU61_zh4 := (congrFun ezh4 _).symm.trans ((up_ne (by simp)).trans zU61_zh3)
  have zU62_zh4 := (congrFun ezh4 _).symm.trans ((up_ne (by simp)).trans zU62_zh3)
  have zU63_zh4 := (congrFun ezh4 _).symm.trans (up_same _ _ _)
  refine j_putF (fs' := [_, _, _, _]) hc dX4_init_21 pX4_18 rfl zU_zh4 rfl rfl ?_
  generalize ezh5 : up _ _ _ = zh5
  have zU_zh5 := (congrFun ezh5 _).symm.trans (up_same _ _ _)
  have zU61_zh5 := (congrFun ezh5 _).symm.trans ((up_ne (by simp)).trans zU61_zh4)
  have zU62_zh5 := (congrFun ezh5 _).symm.trans ((up_ne (by simp)).trans zU62_zh4)
  have zU63_zh5 := (congrFun ezh5 _).symm.trans ((up_ne (by simp)).trans zU63_zh4)
  exact j_vret hc he dX4_init_24 rfl (by omega) (by omega) ⟨rfl, ⟨zU_zh5, zU61_zh5, ⟨_, zU62_zh5, trivial⟩, zU63_zh5⟩, (by rw [← ezh5]; exact Fr.push ((by rw [← ezh4]; exact Fr.push ((by rw [← ezh3]; exact Fr.push ((by rw [← ezh2]; exact Fr.push ((by rw [← ezh1]; exact Fr.push (Fr.rf (isRule l) _) (by simp [isRule]))) (by simp [isRule]))) (by simp [isRule]))) (by simp [isRule]))) (by simp [isRule]))⟩
