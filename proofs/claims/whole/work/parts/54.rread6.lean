theorem ruL_eq (b : Int → Int) (n : Int) : lpC b n 240 (cl2 b n 0 []) = ruL b n := by
  unfold ruL cl2
  simp only [List.nil_append]
theorem cl2_b {b : Int → Int} {n j : Int} {cs : List (List Int × List Int)} (hn : 0 ≤ n) (h0 : 0 ≤ j) (h1 : j ≤ n) (hl : ((flC cs).length : Int) ≤ j) : RpB n 0 (fl2 (cl2 b n j cs)) := by
  have hb := clP_b b n j h0 h1
  by_cases q : (clP b n j).1 = -1
  · rw [(cl2_ok q).2]
    have h2 := hb.2.2 q
    refine ⟨by show (-1 : Int) ≤ -1; omega, by show (-1 : Int) ≤ n; omega, fun _ => ?_⟩
    have e := lap (flC cs) (clP b n j).2.2
    show 0 < (clP b n j).2.1 ∧ (clP b n j).2.1 ≤ n ∧ ((flC cs ++ (clP b n j).2.2).length : Int) ≤ (clP b n j).2.1 - 0
    omega
  · have e := cl2_no (cs := cs) q
    exact ⟨by rw [e]; exact hb.1, by rw [e]; exact hb.2.1, fun z => absurd (e.symm.trans z) q⟩
/-! ===== the whole rule; readers and tape made ===== -/
theorem RrG.next {j : Int} {t : List Int} {q r' : RP} {n cl : Int} {cf : Int → Int} {h h1 h2 : AH} {v : AV} (g : RrG j t cl cf h h1) (a : RrP q n (cl + t.length) (wrL cf cl t) h1 h2 v) (ok : q.1 = -1 → r' = (-1, q.2.1, t ++ q.2.2) ∧ 0 ≤ q.2.1 ∧ q.2.1 ≤ n ∧ 0 ≤ cl ∧ cl + (t ++ q.2.2).length ≤ 482) (no : q.1 ≠ -1 → r'.1 = q.1) : RrP r' n cl cf h h2 v := by
  rw [a.val]
  by_cases e : q.1 = -1
  · rw [if_pos e]
    obtain ⟨o1, o2, o3, o4, o5⟩ := ok e
    exact RrG.fin (g.seq a e) o1 o2 o3 o4 o5
  · rw [if_neg e]
    exact RrB.fin (g.bad a) (no e) e
theorem ruL_b (b : Int → Int) (n : Int) (hn : 0 ≤ n) : ∀ (m : Nat) (r : RU2), RpB n 0 (fl2 r) → RpB n 0 (fl2 (lpC b n m r))
  | 0, r, h => h
  | m + 1, r, h => by
    by_cases q : r.1 = -1
    · have h1 := h.2.2 q
      obtain ⟨s1, s2, -⟩ := skS_b b n r.2.1
      have h12 : 0 < r.2.1 ∧ r.2.1 ≤ n := ⟨h1.1, h1.2.1⟩
      have s2 := s2 h12.2
      by_cases q2 : hrS b n (skS b n r.2.1) = 59
      · rw [lpC_go q q2]
        have l1 : skS b n r.2.1 < n := hrS_lt (b := b) (by omega) (by omega)
        refine ruL_b b n hn m _ (cl2_b ?_ ?_ ?_ ?_)
        · omega
        · omega
        · omega
        · have := h1.2.2; show ((flC r.2.2).length : Int) ≤ _; have h9 : ((flC r.2.2).length : Int) ≤ r.2.1 - 0 := h1.2.2; omega
      · rw [lpC_end q q2 _ (by omega)]
        refine ⟨by show (-1 : Int) ≤ -1; omega, by show (-1 : Int) ≤ n; omega, fun _ => ?_⟩
        have h9 : ((flC r.2.2).length : Int) ≤ r.2.1 - 0 := h1.2.2
        show 0 < skS b n r.2.1 ∧ skS b n r.2.1 ≤ n ∧ ((flC r.2.2).length : Int) ≤ skS b n r.2.1 - 0
        omega
    · rw [lpC_bad q]; exact h
theorem ff_fin {b : Int → Int} {n : Int} {cf : Int → Int} {h h1 h2 : AH} {r : RU2} {v : AV} {i1 cl1 : Int} {cf1 : Int → Int} (he : r = ruL b n) (hn : 0 ≤ n)
    (zO : RrO h1 i1 r.1 cl1 cf1) (zok : r.1 = -1 → i1 = r.2.1 ∧ cl1 = (flC r.2.2).length ∧ cf1 = wrL cf 0 (flC r.2.2)) (zc0 : 0 ≤ cl1) (zc1 : cl1 ≤ 482) (zF : Fr isRr h h1)
    (hv : v = vI (if r.1 = -1 ∧ i1 < n then i1 else r.1)) (zQ : ∃ ff', h2 (9, 0) = some (oO 4 (vR (1, 0) :: vI i1 :: vI ff' :: [vR (10, 0), vI cl1]))) (zF2 : Fr (fun z => z = (9, 0)) h1 h2) (hi0 : 0 ≤ i1) : 
    v = vI (ruR b n).1 ∧ (∃ (i' ff' cl' : Int) (cf' : Int → Int), RrO h2 i' ff' cl' cf' ∧ 0 ≤ cl' ∧ cl' ≤ 482 ∧ ((ruR b n).1 = -1 → cl' = (flC (ruR b n).2).length ∧ cf' = wrL cf 0 (flC (ruR b n).2))) ∧ Fr isRr h h2 := by
  subst he
  obtain ⟨ff', zQ⟩ := zQ
  have hO2 := zO.cl zQ zF2
  have hFr := zF.tr zF2.r9
  unfold ruR
  by_cases q : (ruL b n).1 = -1
  · obtain ⟨e1, e2, e3⟩ := zok q
    subst e1 e2 e3
    by_cases q2 : (ruL b n).2.1 < n
    · rw [if_neg (by omega), if_pos q2]
      rw [if_pos ⟨q, q2⟩] at hv
      exact ⟨hv, ⟨_, _, _, _, hO2, zc0, zc1, fun z => by have z : (ruL b n).2.1 = -1 := z; omega⟩, hFr⟩
    · rw [if_neg (by omega), if_neg q2]
      rw [if_neg (by omega), q] at hv
      exact ⟨hv, ⟨_, _, _, _, hO2, zc0, zc1, fun _ => ⟨rfl, rfl⟩⟩, hFr⟩
  · rw [if_pos (by omega)]
    rw [if_neg (fun z => q z.1)] at hv
    exact ⟨hv, ⟨_, _, _, _, hO2, zc0, zc1, fun z => absurd z q⟩, hFr⟩
set_option maxRecDepth 100000 in
set_option maxHeartbeats 4000000 in
theorem lp_X5_findFault {k : WC} {d : Nat} {w : MC} {h : AH} {b : Int → Int} {n : Int} {c : Nat} {cf : Int → Int} (hT : TpOK b n) (hP : NtU k mdX5_readsClause b n c (clP b n)) (hd : c + 1 ≤ d) (hd2 : 4 ≤ d) (zT : TpA h b n) (hc : Cx w k d 0 0 mdX5_findFault) (he : Ends w 0 0 (pe fun v h' => v = vI (ruR b n).1 ∧ (∃ (i' ff' cl' : Int) (cf' : Int → Int), RrO h' i' ff' cl' cf' ∧ 0 ≤ cl' ∧ cl' ≤ 482 ∧ ((ruR b n).1 = -1 → cl' = (flC (ruR b n).2).length ∧ cf' = wrL cf 0 (flC (ruR b n).2))) ∧ Fr isRr h h')) : ∀ (zm : Nat) (x : Nat) (r : RU2) (v : AV) (h' : AH), 240 - x = zm → x ≤ 240 → RpB n 0 (fl2 r) → RrP (fl2 r) n 0 cf h h' v → lpC b n (240 - x) r = ruL b n → J w 0 0 16 [some (vR (9, 0)), some v, some (vI x)] [] h' := by
  intro zm
  induction zm using Nat.strongRecOn with
  | _ zm ih =>
    intro x r v h' hm hx hB hr hst
    obtain ⟨hn0, hn1, hb⟩ := id hT
    have zvr := RrP.val hr
    subst zvr
    refine j_iload_n hc dX5_findFault_16 rfl ?_
    refine j_sipush hc dX5_findFault_17 (by decide) ?_
    refine j_icmp_ge (tgt := 47) hc dX5_findFault_20 (by decide) ⟨by omega, by omega⟩ ⟨by omega, by omega⟩ (fun zc1 => ?_) (fun zc1 => ?_)
    · have zx9 : 240 - x = 0 := by omega
      refine j_aload_n hc dX5_findFault_47 rfl ?_
      obtain ⟨i1, cl1, cf1, zv1, zo1, zk1, za1, zb1, zc1, zd1, ze1⟩ := id hr
      have hB1 := hB.1
      have hB2 := hB.2.1
      refine j_callU (d' := d - 1) hc dX5_findFault_48 uX5_31_c4 zo1.1 (ev_X3_faultAtEnd_c4 (b := b) (n := n) (i := i1) (ff := r.1) (by omega) zo1.1 (TpA.rr ze1 zT) hT za1 zb1 hB1 hB2) rfl (by omega) (by omega) (by omega) rfl rfl (Nat.le_of_ble_eq_true rfl) (retE fun zv48 zq48 zp48 => ?_)
      obtain ⟨zv8, zq8, zf8⟩ := zp48
      subst zv8
      exact j_iret hc he dX5_findFault_51 rfl (by omega) (by omega) ⟨_, rfl, ff_fin (r := r) (by rw [← hst, zx9]; rfl) hn0 zo1 (fun z => by obtain ⟨zz1, zz2, zz3⟩ := zk1 z; exact ⟨zz1, by rw [zz2]; show 0 + ((flC r.2.2).length : Int) = _; omega, zz3⟩) zc1 zd1 ze1 rfl zq8 zf8 za1⟩
    · refine j_iload_n hc dX5_findFault_23 rfl ?_
      refine j_if_eq (b := 0) (tgt := 47) hc dX5_findFault_24 (by decide) (by split <;> exact ⟨by omega, by omega⟩) (fun zc2 => ?_) (fun zc2 => ?_)
      · have zu9 : ¬ r.1 = -1 := one_neg zc2
        refine j_aload_n hc dX5_findFault_47 rfl ?_
        obtain ⟨i1, cl1, cf1, zv1, zo1, zk1, za1, zb1, zc1, zd1, ze1⟩ := id hr
        have hB1 := hB.1
        have hB2 := hB.2.1
        refine j_callU (d' := d - 1) hc dX5_findFault_48 uX5_31_c4 zo1.1 (ev_X3_faultAtEnd_c4 (b := b) (n := n) (i := i1) (ff := r.1) (by omega) zo1.1 (TpA.rr ze1 zT) hT za1 zb1 hB1 hB2) rfl (by omega) (by omega) (by omega) rfl rfl (Nat.le_of_ble_eq_true rfl) (retE fun zv48 zq48 zp48 => ?_)
        obtain ⟨zv8, zq8, zf8⟩ := zp48
        subst zv8
        exact j_iret hc he dX5_findFault_51 rfl (by omega) (by omega) ⟨_, rfl, ff_fin (r := r) (by rw [← hst, lpC_bad zu9]) hn0 zo1 (fun z => by obtain ⟨zz1, zz2, zz3⟩ := zk1 z; exact ⟨zz1, by rw [zz2]; show 0 + ((flC r.2.2).length : Int) = _; omega, zz3⟩) zc1 zd1 ze1 rfl zq8 zf8 za1⟩
      · have zu9 : r.1 = -1 := one_pos zc2
        have zG1 : RrG r.2.1 (flC r.2.2) 0 cf h _ := RrP.good hr zu9
        obtain ⟨zr1, zr2, zr3⟩ := hB.2.2 zu9
        have zr1 : 0 < r.2.1 := zr1
        have zr2 : r.2.1 ≤ n := zr2
        have zr3 : ((flC r.2.2).length : Int) ≤ r.2.1 - 0 := zr3
        obtain ⟨zs1, zs2, -⟩ := skS_b b n r.2.1
        have zs2 := zs2 zr2
        refine j_aload_n hc dX5_findFault_27 rfl ?_
        refine j_bipush hc dX5_findFault_28 (by decide) ?_
        refine j_callU (d' := d - 1) hc dX5_findFault_30 uX5_27_c4 zG1.1.1 (ev_X3_takes_c4 (b := b) (n := n) (i := r.2.1) (cc := 59) (by omega) zG1.1.1 (TpA.rr zG1.2 zT) hT (by omega) (by omega) (by omega) (by omega)) rfl (by omega) (by omega) (by omega) rfl rfl (Nat.le_of_ble_eq_true rfl) (retE fun zv30 zq30 zp30 => ?_)
        obtain ⟨zv9, zq9, zf9⟩ := zp30
        subst zv9
        refine j_if_eq (b := 0) (tgt := 47) hc dX5_findFault_33 (by decide) (by split <;> exact ⟨by omega, by omega⟩) (fun zc3 => ?_) (fun zc3 => ?_)
        · have zn9 : ¬ hrS b n (skS b n r.2.1) = 59 := one_neg zc3
          rw [if_neg zn9] at zq9
          have zG2 := RrG.q9 zG1 zq9 zf9
          refine j_aload_n hc dX5_findFault_47 rfl ?_
          refine j_callU (d' := d - 1) hc dX5_findFault_48 uX5_31_c4 zG2.1.1 (ev_X3_faultAtEnd_c4 (b := b) (n := n) (i := skS b n r.2.1) (ff := -1) (by omega) zG2.1.1 (TpA.rr zG2.2 zT) hT (by omega) (by omega) (by omega) (by omega)) rfl (by omega) (by omega) (by omega) rfl rfl (Nat.le_of_ble_eq_true rfl) (retE fun zv48 zq48 zp48 => ?_)
          obtain ⟨zv8, zq8, zf8⟩ := zp48
          subst zv8
          exact j_iret hc he dX5_findFault_51 rfl (by omega) (by omega) ⟨_, rfl, ff_fin (r := (-1, skS b n r.2.1, r.2.2)) (by rw [← hst, lpC_end zu9 zn9 _ (by omega)]) hn0 zG2.1 (fun _ => ⟨rfl, by simp, rfl⟩) (by omega) (by omega) zG2.2 rfl zq8 zf8 (by omega)⟩
        · have zy9 : hrS b n (skS b n r.2.1) = 59 := one_pos zc3
          rw [if_pos zy9] at zq9
          have zG2 := RrG.q9 zG1 zq9 zf9
          have zlt : skS b n r.2.1 < n := hrS_lt (b := b) (by omega) (by omega)
          refine j_aload_n hc dX5_findFault_36 rfl ?_
          refine j_callV (d' := d - 1) hc dX5_findFault_37 vX5_23 zG2.1.1 (hP (d - 1) _ (skS b n r.2.1 + 1) _ _ (by omega) zG2.1 (TpA.rr zG2.2 zT) (by omega) (by omega) (by omega) (by omega)) rfl (by omega) (by omega) (by omega) rfl rfl (Nat.le_of_ble_eq_true rfl) (retE fun zv37 zq37 zp37 => ?_)
          have zN := RrG.next (r' := fl2 (cl2 b n (skS b n r.2.1 + 1) r.2.2)) zG2 zp37 (fun z => ⟨(cl2_ok z).2, by have := (clP_b b n (skS b n r.2.1 + 1) (by omega) (by omega)).2.2 z; have := lap (flC r.2.2) (clP b n (skS b n r.2.1 + 1)).2.2; omega⟩) (fun z => cl2_no z)
          have zvN := RrP.val zN
          subst zvN
          refine j_istore_n (L' := [_, _, _]) hc dX5_findFault_40 (Nat.le_of_ble_eq_true rfl) rfl ?_
          refine j_iinc (L' := [_, _, _]) hc dX5_findFault_41 rfl (Nat.le_of_ble_eq_true rfl) rfl ?_
          refine j_goto (tgt := 16) hc dX5_findFault_44 (by decide) ?_
          exact ih _ (by omega) (x + 1) (cl2 b n (skS b n r.2.1 + 1) r.2.2) _ _ rfl (by omega) (cl2_b hn0 (by omega) (by omega) (by omega)) zN (by rw [← hst, show 240 - x = (240 - (x + 1)) + 1 by omega, lpC_go zu9 zy9])
set_option maxRecDepth 100000 in
set_option maxHeartbeats 4000000 in
theorem ev_X5_findFault {k : WC} {d : Nat} {h : AH} {b : Int → Int} {n i ff cl : Int} {cf : Int → Int} (hd : 200 ≤ d) (zO : RrO h i ff cl cf) (zT : TpA h b n) (hT : TpOK b n) : Ev k d mdX5_findFault h [vR (9, 0)] 0 0 (pe fun v h' => v = vI (ruR b n).1 ∧ (∃ (i' ff' cl' : Int) (cf' : Int → Int), RrO h' i' ff' cl' cf' ∧ 0 ≤ cl' ∧ cl' ≤ 482 ∧ ((ruR b n).1 = -1 → cl' = (flC (ruR b n).2).length ∧ cf' = wrL cf 0 (flC (ruR b n).2))) ∧ Fr isRr h h') := by
  obtain ⟨hn0, hn1, hb⟩ := id hT
  have hs6 := nt_smK (k := k) hT 6 (by omega)
  obtain ⟨-, hc0, hc1⟩ := nt_unK (k := k) hT 6 (by omega)
  have hgi := nt_given hT (hs6.up (c' := 139) (by omega))
  have hP : NtU k mdX5_readsClause b n (142 + 4) (clP b n) := nt_clause (c := 142) hT (hs6.up (by omega)) (hc0.up (by omega)) (hc1.up (by omega)) hgi
  refine Ev.mk (by decide +kernel) [_, _, _] rfl (Nat.le_of_ble_eq_true rfl) (fun w hc he => ?_)
  refine j_aload_n hc dX5_findFault_0 rfl ?_
  refine j_iconst hc dX5_findFault_1 ?_
  refine j_put (fs' := [_, _, _, _, _]) hc dX5_findFault_2 pX5_15 zO.1 rfl rfl ?_
  generalize ezh1 : up _ _ _ = zh1
  have zQ_zh1 := (congrFun ezh1 _).symm.trans (up_same _ _ _)
  have zQ10_zh1 := (congrFun ezh1 _).symm.trans ((up_ne (by simp)).trans zO.2)
  have zT_zh1 := (congrFun ezh1 _).symm.trans ((up_ne (by simp)).trans zT.1)
  have zT2_zh1 := (congrFun ezh1 _).symm.trans ((up_ne (by simp)).trans zT.2)
  refine j_aload_n hc dX5_findFault_5 rfl ?_
  refine j_callU (d' := d - 1) hc dX5_findFault_6 uX5_19_c4 zQ_zh1 (ev_X3_goToBeginning_c4 (by omega) zQ_zh1) rfl (by omega) (by omega) (by omega) rfl rfl (Nat.le_of_ble_eq_true rfl) (retN fun zq6 zp6 => ?_)
  have zo6 : RrO zq6 0 (-1) 0 cf := ⟨zp6.1, (zp6.2 (10, 0) (by simp)).trans zQ10_zh1⟩
  have zFr6 : Fr isRr h zq6 := (by rw [← ezh1] at zp6; exact (Fr.up (Or.inl rfl)).tr zp6.2.r9)
  have zG0 : RrG 0 [] 0 cf h zq6 := ⟨by simpa [wrL] using zo6, zFr6⟩
  refine j_aload_n hc dX5_findFault_9 rfl ?_
  refine j_callV (d' := d - 1) hc dX5_findFault_10 vX5_23 zG0.1.1 (hP (d - 1) _ 0 _ _ (by omega) zG0.1 (TpA.rr zG0.2 zT) (by omega) (by omega) (by omega) (by simp)) rfl (by omega) (by omega) (by omega) rfl rfl (Nat.le_of_ble_eq_true rfl) (retE fun zv10 zq10 zp10 => ?_)
  have zN := RrG.next (r' := fl2 (cl2 b n 0 [])) zG0 zp10 (fun z => ⟨(cl2_ok z).2, by have := (clP_b b n 0 (by omega) (by omega)).2.2 z; have := lap [] (clP b n 0).2.2; simp only [List.length_nil] at this; omega⟩) (fun z => cl2_no z)
  have zvN := RrP.val zN
  subst zvN
  refine j_istore_n (L' := [_, _, _]) hc dX5_findFault_13 (Nat.le_of_ble_eq_true rfl) rfl ?_
  refine j_iconst hc dX5_findFault_14 ?_
  refine j_istore_n (L' := [_, _, _]) hc dX5_findFault_15 (Nat.le_of_ble_eq_true rfl) rfl ?_
  exact lp_X5_findFault hT hP (by omega) (by omega) zT hc he _ 0 (cl2 b n 0 []) _ _ rfl (by omega) (cl2_b hn0 (by omega) (by omega) (by simp [flC])) zN (ruL_eq b n)
