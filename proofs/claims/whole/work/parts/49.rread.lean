/-! ===== the reader of rules ===== -/
def RrO (h : AH) (i ff cl : Int) (cf : Int → Int) : Prop := h (9, 0) = some (oO 4 (vR (1, 0) :: vI i :: vI ff :: [vR (10, 0), vI cl])) ∧ h (10, 0) = some (oI 482 cf)
abbrev isRr : Nm → Prop := fun z => z.1 = 9 ∨ z.1 = 10
def RrP (r : RP) (n cl : Int) (cf : Int → Int) (h h' : AH) (v : AV) : Prop := ∃ (i' cl' : Int) (cf' : Int → Int), v = vI (if r.1 = -1 then 1 else 0) ∧ RrO h' i' r.1 cl' cf' ∧ (r.1 = -1 → i' = r.2.1 ∧ cl' = cl + r.2.2.length ∧ cf' = wrL cf cl r.2.2) ∧ 0 ≤ i' ∧ i' ≤ n ∧ 0 ≤ cl' ∧ cl' ≤ 482 ∧ Fr isRr h h'
theorem RrP.done {r : RP} {n cl i' cl' : Int} {cf cf' : Int → Int} {h h' : AH} {t : List Int} (e : r = (-1, i', t)) (hO : RrO h' i' (-1) cl' cf') (e1 : cl' = cl + t.length) (e2 : cf' = wrL cf cl t) (h0 : 0 ≤ i') (h1 : i' ≤ n) (h2 : 0 ≤ cl') (h3 : cl' ≤ 482) (f : Fr isRr h h') : RrP r n cl cf h h' (vI 1) := by
  subst e
  exact ⟨i', cl', cf', by rw [if_pos rfl], hO, fun _ => ⟨rfl, e1, e2⟩, h0, h1, h2, h3, f⟩
theorem RrP.fail {r : RP} {n cl i' cl' f0 : Int} {cf cf' : Int → Int} {h h' : AH} (e : r.1 = f0) (hne : f0 ≠ -1) (hO : RrO h' i' f0 cl' cf') (h0 : 0 ≤ i') (h1 : i' ≤ n) (h2 : 0 ≤ cl') (h3 : cl' ≤ 482) (f : Fr isRr h h') : RrP r n cl cf h h' (vI 0) := by
  subst e
  exact ⟨i', cl', cf', by rw [if_neg hne], hO, fun z => absurd z hne, h0, h1, h2, h3, f⟩
theorem RrP.val {r : RP} {n cl : Int} {cf : Int → Int} {h h' : AH} {v : AV} (a : RrP r n cl cf h h' v) : v = vI (if r.1 = -1 then 1 else 0) := by
  obtain ⟨i, c, f, h1, -⟩ := a
  exact h1
theorem RrP.tr {r r' : RP} {n cl : Int} {cf : Int → Int} {h h' h2 : AH} {v : AV} (a : RrP r n cl cf h' h2 v) (f : Fr isRr h h') (e : r' = r) : RrP r' n cl cf h h2 v := by
  subst e
  obtain ⟨i, c, g, h1, h3, h4, h5, h6, h7, h8, h9⟩ := a
  exact ⟨i, c, g, h1, h3, h4, h5, h6, h7, h8, f.tr h9⟩
theorem RrO.cl {h h' : AH} {i ff cl i' ff' : Int} {cf : Int → Int} (hO : RrO h i ff cl cf) (h1 : h' (9, 0) = some (oO 4 (vR (1, 0) :: vI i' :: vI ff' :: [vR (10, 0), vI cl]))) (f : Fr (fun z => z = (9, 0)) h h') : RrO h' i' ff' cl cf := ⟨h1, (f (10, 0) (by simp)).trans hO.2⟩
theorem Fr.r9 {h h' : AH} (f : Fr (fun z => z = (9, 0)) h h') : Fr isRr h h' := f.mono fun z zz => Or.inl (by rw [zz])
theorem TpA.rr {h h' : AH} {b : Int → Int} {n : Int} (f : Fr isRr h h') (t : TpA h b n) : TpA h' b n := ⟨(f (1, 0) (by show ¬ (_ = 9 ∨ _ = 10); decide)).trans t.1, (f (2, 0) (by show ¬ (_ = 9 ∨ _ = 10); decide)).trans t.2⟩
theorem needs_rr {b : Int → Int} {n i cl c : Int} {cf : Int → Int} {h h' : AH} {v : AV} (hO : RrO h i (-1) cl cf) (hc : c ≠ 0) (h0 : 0 ≤ i) (h1 : i ≤ n) (h2 : 0 ≤ cl) (h3 : cl ≤ 482)
    (zp : v = vI (if hrS b n (skS b n i) = c then 1 else 0) ∧ h' (9, 0) = some (oO 4 (vR (1, 0) :: vI (if hrS b n (skS b n i) = c then skS b n i + 1 else skS b n i) :: vI (if hrS b n (skS b n i) = c then -1 else skS b n i) :: [vR (10, 0), vI cl])) ∧ Fr (fun z => z = (9, 0)) h h') : RrP (neS b n c i) n cl cf h h' v := by
  obtain ⟨zv, zQ, zF⟩ := zp
  subst zv
  obtain ⟨s1, s2, -⟩ := skS_b b n i
  have s2 := s2 h1
  unfold neS
  by_cases q : hrS b n (skS b n i) = c
  · have l1 : skS b n i < n := hrS_lt (b := b) (by omega) (by omega)
    rw [if_pos q] at zQ ⊢
    rw [if_pos q] at zQ
    rw [if_pos q]
    exact RrP.done rfl (hO.cl zQ zF) (by simp) rfl (by omega) (by omega) h2 h3 zF.r9
  · rw [if_neg q] at zQ ⊢
    rw [if_neg q] at zQ
    rw [if_neg q]
    exact RrP.fail (f0 := skS b n i) rfl (by omega) (hO.cl zQ zF) (by omega) s2 h2 h3 zF.r9
set_option maxRecDepth 100000 in
set_option maxHeartbeats 4000000 in
theorem ev_X5_writes {k : WC} {d : Nat} {h : AH} {i ff cl x n : Int} {cf : Int → Int} (hd : 1 ≤ d) (zO : RrO h i ff cl cf) (hc0 : 0 ≤ cl) (hc1 : cl < 482) (hff : ff = -1) (hi0 : 0 ≤ i) (hi1 : i ≤ n) : Ev k d mdX5_writes h [vR (9, 0), vI x] 0 0 (pe fun v h' => RrP (-1, i, [x]) n cl cf h h' v) := by
  refine Ev.mk (by decide +kernel) [_, _] rfl (Nat.le_of_ble_eq_true rfl) (fun w hc he => ?_)
  refine j_aload_n hc dX5_writes_0 rfl ?_
  refine j_get hc dX5_writes_1 fX5_15 zO.1 rfl ?_
  refine j_aload_n hc dX5_writes_4 rfl ?_
  refine j_get hc dX5_writes_5 fX5_11 zO.1 rfl ?_
  refine j_alenP hc dX5_writes_8 zO.2 (by decide) ?_
  refine j_icmp_ge (tgt := 32) hc dX5_writes_9 (by decide) ⟨by omega, by omega⟩ ⟨by omega, by omega⟩ (fun zc1 => ?_) (fun zc1 => ?_)
  · refine j_iconst hc dX5_writes_32 ?_
    first
      | (exfalso; omega)
      | exact j_zret hc he dX5_writes_33 rfl (by omega) (by omega) (Or.inr rfl) ⟨_, rfl, RrP.done rfl (by subst hff; exact ⟨zO.1, zO.2⟩) (by simp) rfl hi0 hi1 (by omega) (by omega) (Fr.rf isRr _)⟩
  · refine j_aload_n hc dX5_writes_12 rfl ?_
    refine j_get hc dX5_writes_13 fX5_11 zO.1 rfl ?_
    refine j_aload_n hc dX5_writes_16 rfl ?_
    refine j_get hc dX5_writes_17 fX5_15 zO.1 rfl ?_
    refine j_iload_n hc dX5_writes_20 rfl ?_
    refine j_iast hc dX5_writes_21 zO.2 (by omega) (by omega) ?_
    generalize ezh1 : up _ _ _ = zh1
    have zQ_zh1 := (congrFun ezh1 _).symm.trans ((up_ne (by simp)).trans zO.1)
    have zQ10_zh1 := (congrFun ezh1 _).symm.trans (up_same _ _ _)
    refine j_aload_n hc dX5_writes_22 rfl ?_
    refine j_dup hc dX5_writes_23 rfl ?_
    refine j_get hc dX5_writes_24 fX5_15 zQ_zh1 rfl ?_
    refine j_iconst hc dX5_writes_27 ?_
    refine j_iadd hc dX5_writes_28 ?_
    refine j_put (fs' := [_, _, _, _, _]) hc dX5_writes_29 pX5_15 zQ_zh1 rfl rfl ?_
    generalize ezh2 : up _ _ _ = zh2
    have zQ_zh2 := (congrFun ezh2 _).symm.trans (up_same _ _ _)
    have zQ10_zh2 := (congrFun ezh2 _).symm.trans ((up_ne (by simp)).trans zQ10_zh1)
    refine j_iconst hc dX5_writes_32 ?_
    first
      | (exfalso; omega)
      | exact j_zret hc he dX5_writes_33 rfl (by omega) (by omega) (Or.inr rfl) ⟨_, rfl, RrP.done rfl (by subst hff; exact ⟨zQ_zh2, zQ10_zh2⟩) (by simp) rfl hi0 hi1 (by omega) (by omega) ((by rw [← ezh2]; exact Fr.push ((by rw [← ezh1]; exact Fr.push (Fr.rf isRr _) (by first | exact Or.inl rfl | exact Or.inr rfl))) (by first | exact Or.inl rfl | exact Or.inr rfl)))⟩
set_option maxRecDepth 100000 in
set_option maxHeartbeats 4000000 in
theorem ev_X5_goesDeeper {k : WC} {d : Nat} {h : AH} {i cl dp n : Int} {cf : Int → Int} (hd : 2 ≤ d) (zO : RrO h i (-1) cl cf) (hi0 : 0 ≤ i) (hi1 : i < n) (hc0 : 0 ≤ cl) (hc1 : cl ≤ 482) (hdp0 : 0 ≤ dp) (hdp1 : dp ≤ 6) (hn : n ≤ 240) : Ev k d mdX5_goesDeeper h [vR (9, 0), vI dp] 0 0 (pe fun v h' => RrP (if dp < 6 then (-1, i + 1, []) else rpF i) n cl cf h h' v) := by
  refine Ev.mk (by decide +kernel) [_, _] rfl (Nat.le_of_ble_eq_true rfl) (fun w hc he => ?_)
  refine j_iload_n hc dX5_goesDeeper_0 rfl ?_
  refine j_bipush hc dX5_goesDeeper_1 (by decide) ?_
  refine j_icmp_lt (tgt := 15) hc dX5_goesDeeper_3 (by decide) ⟨by omega, by omega⟩ ⟨by omega, by omega⟩ (fun zc1 => ?_) (fun zc1 => ?_)
  · refine j_aload_n hc dX5_goesDeeper_15 rfl ?_
    refine j_dup hc dX5_goesDeeper_16 rfl ?_
    refine j_get hc dX5_goesDeeper_17 fX5_80 zO.1 rfl ?_
    refine j_iconst hc dX5_goesDeeper_20 ?_
    refine j_iadd hc dX5_goesDeeper_21 ?_
    refine j_put (fs' := [_, _, _, _, _]) hc dX5_goesDeeper_22 pX5_80 zO.1 rfl rfl ?_
    generalize ezh1 : up _ _ _ = zh1
    have zQ_zh1 := (congrFun ezh1 _).symm.trans (up_same _ _ _)
    have zQ10_zh1 := (congrFun ezh1 _).symm.trans ((up_ne (by simp)).trans zO.2)
    refine j_iconst hc dX5_goesDeeper_25 ?_
    exact j_zret hc he dX5_goesDeeper_26 rfl (by omega) (by omega) (Or.inr rfl) ⟨_, rfl, RrP.done (by rw [if_pos (by omega)]) ⟨zQ_zh1, zQ10_zh1⟩ (by simp) rfl (by omega) (by omega) (by omega) (by omega) ((by rw [← ezh1]; exact Fr.push (Fr.rf isRr _) (by first | exact Or.inl rfl | exact Or.inr rfl)))⟩
  · refine j_aload_n hc dX5_goesDeeper_6 rfl ?_
    refine j_aload_n hc dX5_goesDeeper_7 rfl ?_
    refine j_get hc dX5_goesDeeper_8 fX5_80 zO.1 rfl ?_
    refine j_callU (d' := d - 1) hc dX5_goesDeeper_11 uX5_83_c4 zO.1 (ev_X3_isWrongAt_c4 (by omega) zO.1) rfl (by omega) (by omega) (by omega) rfl rfl (Nat.le_of_ble_eq_true rfl) (retE fun zv11 zq11 zp11 => ?_)
    obtain ⟨zv11_, zQw, zFw⟩ := zp11
    subst zv11_
    have zQ10_qw := (zFw _ (by first | (simp; done) | (simp; omega))).trans zO.2
    exact j_zret hc he dX5_goesDeeper_14 rfl (by omega) (by omega) (Or.inl rfl) ⟨_, rfl, RrP.fail (f0 := i) (by rw [if_neg (by omega)]; rfl) (by omega) ⟨zQw, zQ10_qw⟩ (by omega) (by omega) (by omega) (by omega) (Fr.tr (Fr.rf isRr _) (zFw.mono fun z zz => (by first | exact zz | (rw [zz]; exact Or.inl rfl))))⟩
set_option maxRecDepth 100000 in
set_option maxHeartbeats 4000000 in
theorem ev_X5_isAtComparison {k : WC} {d : Nat} {h : AH} {b : Int → Int} {n i ff cl : Int} {cf : Int → Int} (hd : 2 ≤ d) (zO : RrO h i ff cl cf) (zT : TpA h b n) (hT : TpOK b n) (hi0 : 0 ≤ i) (hi1 : i ≤ n) (hc0 : 0 ≤ cl) (hc1 : cl ≤ i)  : Ev k d mdX5_isAtComparison h [vR (9, 0)] 0 0 (pe fun v h' => v = vI (if isCm (hrS b n (skS b n i)) then 1 else 0) ∧ RrO h' (skS b n i) ff cl cf ∧ Fr isRr h h') := by
  obtain ⟨hn0, hn1, hb⟩ := id hT
  obtain ⟨zs1, zs2, zs3⟩ := skS_b b n i
  have zs2 := zs2 hi1
  have zh1 := hrS_b hb (skS b n i)
  refine Ev.mk (by decide +kernel) [_] rfl (Nat.le_of_ble_eq_true rfl) (fun w hc he => ?_)
  refine j_aload_n hc dX5_isAtComparison_0 rfl ?_
  refine j_callU (d' := d - 1) hc dX5_isAtComparison_1 uX5_44_c4 zO.1 (ev_X3_skipBlanks_c4 (by omega) zO.1 ⟨zT.1, zT.2⟩ hT (by omega) (by omega)) rfl (by omega) (by omega) (by omega) rfl rfl (Nat.le_of_ble_eq_true rfl) (retN fun zq1 zp1 => ?_)
  obtain ⟨zQ1, zF1⟩ := zp1
  have zQ10_q1 := (zF1 _ (by first | (simp; done) | (simp; omega))).trans zO.2
  have zT_q1 := (zF1 _ (by first | (simp; done) | (simp; omega))).trans zT.1
  have zT2_q1 := (zF1 _ (by first | (simp; done) | (simp; omega))).trans zT.2
  refine j_aload_n hc dX5_isAtComparison_4 rfl ?_
  refine j_callU (d' := d - 1) hc dX5_isAtComparison_5 uX5_47_c4 zQ1 (ev_X3_here_c4 (by omega) zQ1 ⟨zT_q1, zT2_q1⟩ hT (by omega) (by omega)) rfl (by omega) (by omega) (by omega) rfl rfl (Nat.le_of_ble_eq_true rfl) (ret1 ?_)
  refine j_bipush hc dX5_isAtComparison_8 (by decide) ?_
  refine j_icmp_eq (tgt := 31) hc dX5_isAtComparison_10 (by decide) ⟨by omega, by omega⟩ ⟨by omega, by omega⟩ (fun zc1 => ?_) (fun zc1 => ?_)
  · refine j_iconst hc dX5_isAtComparison_31 ?_
    refine j_goto (tgt := 36) hc dX5_isAtComparison_32 (by decide) ?_
    exact j_zret hc he dX5_isAtComparison_36 rfl (by omega) (by omega) (by first | exact Or.inl rfl | exact Or.inr rfl) ⟨_, rfl, by first | rw [if_pos (by omega)] | rw [if_neg (by omega)], ⟨zQ1, zQ10_q1⟩, Fr.tr (Fr.rf isRr _) (zF1.mono fun z zz => (by first | exact zz | (rw [zz]; exact Or.inl rfl)))⟩
  · refine j_aload_n hc dX5_isAtComparison_13 rfl ?_
    refine j_callU (d' := d - 1) hc dX5_isAtComparison_14 uX5_47_c4 zQ1 (ev_X3_here_c4 (by omega) zQ1 ⟨zT_q1, zT2_q1⟩ hT (by omega) (by omega)) rfl (by omega) (by omega) (by omega) rfl rfl (Nat.le_of_ble_eq_true rfl) (ret1 ?_)
    refine j_bipush hc dX5_isAtComparison_17 (by decide) ?_
    refine j_icmp_eq (tgt := 31) hc dX5_isAtComparison_19 (by decide) ⟨by omega, by omega⟩ ⟨by omega, by omega⟩ (fun zc2 => ?_) (fun zc2 => ?_)
    · refine j_iconst hc dX5_isAtComparison_31 ?_
      refine j_goto (tgt := 36) hc dX5_isAtComparison_32 (by decide) ?_
      exact j_zret hc he dX5_isAtComparison_36 rfl (by omega) (by omega) (by first | exact Or.inl rfl | exact Or.inr rfl) ⟨_, rfl, by first | rw [if_pos (by omega)] | rw [if_neg (by omega)], ⟨zQ1, zQ10_q1⟩, Fr.tr (Fr.rf isRr _) (zF1.mono fun z zz => (by first | exact zz | (rw [zz]; exact Or.inl rfl)))⟩
    · refine j_aload_n hc dX5_isAtComparison_22 rfl ?_
      refine j_callU (d' := d - 1) hc dX5_isAtComparison_23 uX5_47_c4 zQ1 (ev_X3_here_c4 (by omega) zQ1 ⟨zT_q1, zT2_q1⟩ hT (by omega) (by omega)) rfl (by omega) (by omega) (by omega) rfl rfl (Nat.le_of_ble_eq_true rfl) (ret1 ?_)
      refine j_bipush hc dX5_isAtComparison_26 (by decide) ?_
      refine j_icmp_ne (tgt := 35) hc dX5_isAtComparison_28 (by decide) ⟨by omega, by omega⟩ ⟨by omega, by omega⟩ (fun zc3 => ?_) (fun zc3 => ?_)
      · refine j_iconst hc dX5_isAtComparison_35 ?_
        exact j_zret hc he dX5_isAtComparison_36 rfl (by omega) (by omega) (by first | exact Or.inl rfl | exact Or.inr rfl) ⟨_, rfl, by first | rw [if_pos (by omega)] | rw [if_neg (by omega)], ⟨zQ1, zQ10_q1⟩, Fr.tr (Fr.rf isRr _) (zF1.mono fun z zz => (by first | exact zz | (rw [zz]; exact Or.inl rfl)))⟩
      · refine j_iconst hc dX5_isAtComparison_31 ?_
        refine j_goto (tgt := 36) hc dX5_isAtComparison_32 (by decide) ?_
        exact j_zret hc he dX5_isAtComparison_36 rfl (by omega) (by omega) (by first | exact Or.inl rfl | exact Or.inr rfl) ⟨_, rfl, by first | rw [if_pos (by omega)] | rw [if_neg (by omega)], ⟨zQ1, zQ10_q1⟩, Fr.tr (Fr.rf isRr _) (zF1.mono fun z zz => (by first | exact zz | (rw [zz]; exact Or.inl rfl)))⟩
set_option maxRecDepth 100000 in
set_option maxHeartbeats 4000000 in
theorem ev_X4_letterCode {k : WC} {d : Nat} {h : AH} {x : Int} (hd : 1 ≤ d) (hx : inI x) : Ev k d mdX4_letterCode h [vI x] 0 0 (pr (vI (lcS x)) h) := by
  refine Ev.mk (by decide +kernel) [_] rfl (Nat.le_of_ble_eq_true rfl) (fun w hc he => ?_)
  refine j_iload_n hc dX4_letterCode_0 rfl ?_
  rcases (by omega : x = 97 ∨ x = 110 ∨ x = 112 ∨ x = 114 ∨ x = 115 ∨ (x ≠ 97 ∧ x ≠ 110 ∧ x ≠ 112 ∧ x ≠ 114 ∧ x ≠ 115)) with zc1 | zc1 | zc1 | zc1 | zc1 | zc1
  · refine j_lookup (off := 51) (tgt := 52) hc dX4_letterCode_1 hx (by decide) (by rw [zc1]; rfl) (by decide) ?_
    refine j_iconst hc dX4_letterCode_52 ?_
    exact j_iret hc he dX4_letterCode_53 rfl (by omega) (by omega) ⟨vI_eq (by unfold lcS; first | (rw [if_pos (by omega)]; done) | (rw [if_neg (by omega), if_pos (by omega)]; done) | (rw [if_neg (by omega), if_neg (by omega), if_pos (by omega)]; done) | (rw [if_neg (by omega), if_neg (by omega), if_neg (by omega), if_pos (by omega)]; done) | (rw [if_neg (by omega), if_neg (by omega), if_neg (by omega), if_neg (by omega), if_pos (by omega)]; done) | (rw [if_neg (by omega), if_neg (by omega), if_neg (by omega), if_neg (by omega), if_neg (by omega)]; done)), rfl⟩
  · refine j_lookup (off := 56) (tgt := 57) hc dX4_letterCode_1 hx (by decide) (by rw [zc1]; rfl) (by decide) ?_
    refine j_bipush hc dX4_letterCode_57 (by decide) ?_
    exact j_iret hc he dX4_letterCode_59 rfl (by omega) (by omega) ⟨vI_eq (by unfold lcS; first | (rw [if_pos (by omega)]; done) | (rw [if_neg (by omega), if_pos (by omega)]; done) | (rw [if_neg (by omega), if_neg (by omega), if_pos (by omega)]; done) | (rw [if_neg (by omega), if_neg (by omega), if_neg (by omega), if_pos (by omega)]; done) | (rw [if_neg (by omega), if_neg (by omega), if_neg (by omega), if_neg (by omega), if_pos (by omega)]; done) | (rw [if_neg (by omega), if_neg (by omega), if_neg (by omega), if_neg (by omega), if_neg (by omega)]; done)), rfl⟩
  · refine j_lookup (off := 59) (tgt := 60) hc dX4_letterCode_1 hx (by decide) (by rw [zc1]; rfl) (by decide) ?_
    refine j_bipush hc dX4_letterCode_60 (by decide) ?_
    exact j_iret hc he dX4_letterCode_62 rfl (by omega) (by omega) ⟨vI_eq (by unfold lcS; first | (rw [if_pos (by omega)]; done) | (rw [if_neg (by omega), if_pos (by omega)]; done) | (rw [if_neg (by omega), if_neg (by omega), if_pos (by omega)]; done) | (rw [if_neg (by omega), if_neg (by omega), if_neg (by omega), if_pos (by omega)]; done) | (rw [if_neg (by omega), if_neg (by omega), if_neg (by omega), if_neg (by omega), if_pos (by omega)]; done) | (rw [if_neg (by omega), if_neg (by omega), if_neg (by omega), if_neg (by omega), if_neg (by omega)]; done)), rfl⟩
  · refine j_lookup (off := 62) (tgt := 63) hc dX4_letterCode_1 hx (by decide) (by rw [zc1]; rfl) (by decide) ?_
    refine j_bipush hc dX4_letterCode_63 (by decide) ?_
    exact j_iret hc he dX4_letterCode_65 rfl (by omega) (by omega) ⟨vI_eq (by unfold lcS; first | (rw [if_pos (by omega)]; done) | (rw [if_neg (by omega), if_pos (by omega)]; done) | (rw [if_neg (by omega), if_neg (by omega), if_pos (by omega)]; done) | (rw [if_neg (by omega), if_neg (by omega), if_neg (by omega), if_pos (by omega)]; done) | (rw [if_neg (by omega), if_neg (by omega), if_neg (by omega), if_neg (by omega), if_pos (by omega)]; done) | (rw [if_neg (by omega), if_neg (by omega), if_neg (by omega), if_neg (by omega), if_neg (by omega)]; done)), rfl⟩
  · refine j_lookup (off := 53) (tgt := 54) hc dX4_letterCode_1 hx (by decide) (by rw [zc1]; rfl) (by decide) ?_
    refine j_bipush hc dX4_letterCode_54 (by decide) ?_
    exact j_iret hc he dX4_letterCode_56 rfl (by omega) (by omega) ⟨vI_eq (by unfold lcS; first | (rw [if_pos (by omega)]; done) | (rw [if_neg (by omega), if_pos (by omega)]; done) | (rw [if_neg (by omega), if_neg (by omega), if_pos (by omega)]; done) | (rw [if_neg (by omega), if_neg (by omega), if_neg (by omega), if_pos (by omega)]; done) | (rw [if_neg (by omega), if_neg (by omega), if_neg (by omega), if_neg (by omega), if_pos (by omega)]; done) | (rw [if_neg (by omega), if_neg (by omega), if_neg (by omega), if_neg (by omega), if_neg (by omega)]; done)), rfl⟩
  · refine j_lookup (off := 65) (tgt := 66) hc dX4_letterCode_1 hx (by decide) (by obtain ⟨zk0, zk1, zk2, zk3, zk4⟩ := zc1; simp [Op.lookupswitch.offset, List.find?, Ne.symm zk0, zk0, Ne.symm zk1, zk1, Ne.symm zk2, zk2, Ne.symm zk3, zk3, Ne.symm zk4, zk4]) (by decide) ?_
    refine j_iconst hc dX4_letterCode_66 ?_
    exact j_iret hc he dX4_letterCode_67 rfl (by omega) (by omega) ⟨vI_eq (by unfold lcS; first | (rw [if_pos (by omega)]; done) | (rw [if_neg (by omega), if_pos (by omega)]; done) | (rw [if_neg (by omega), if_neg (by omega), if_pos (by omega)]; done) | (rw [if_neg (by omega), if_neg (by omega), if_neg (by omega), if_pos (by omega)]; done) | (rw [if_neg (by omega), if_neg (by omega), if_neg (by omega), if_neg (by omega), if_pos (by omega)]; done) | (rw [if_neg (by omega), if_neg (by omega), if_neg (by omega), if_neg (by omega), if_neg (by omega)]; done)), rfl⟩
set_option maxRecDepth 100000 in
set_option maxHeartbeats 4000000 in
theorem lp_X5_readsDigits {k : WC} {d : Nat} {w : MC} {h : AH} {b : Int → Int} {n p0 cl : Int} {cf : Int → Int} (hd : 2 ≤ d) (hT : TpOK b n) (hc0 : 0 ≤ cl) (hc1 : cl < 482) (hc : Cx w k d 0 0 mdX5_readsDigits) (he : Ends w 0 0 (pe fun v h' => RrP (diS b n p0) n cl cf h h' v)) : ∀ (zm : Nat) (x : Nat) (i v : Int) (h' : AH), 4 - x = zm → x ≤ 4 → 0 ≤ i → i ≤ n → 0 ≤ v → RrO h' i (-1) cl cf → TpA h' b n → Fr isRr h h' → dgN b n (4 - x) i v = dgN b n 4 p0 0 → J w 0 0 4 [some (vR (9, 0)), some (vI v), some (vI x)] [] h' := by
  obtain ⟨hn0, hn1, hb⟩ := id hT
  intro zm
  induction zm using Nat.strongRecOn with
  | _ zm ih =>
    intro x i v h' hm hx hi0 hi1 hv zO zT hfr hst
    have zh1 := hrS_b hb i
    refine j_iload_n hc dX5_readsDigits_4 rfl ?_
    refine j_iconst hc dX5_readsDigits_5 ?_
    refine j_icmp_ge (tgt := 48) hc dX5_readsDigits_6 (by decide) ⟨by omega, by omega⟩ ⟨by omega, by omega⟩ (fun zc1 => ?_) (fun zc1 => ?_)
    · have zst : dgN b n 4 p0 0 = (i, v) := by
        rw [← hst]
        rcases (by omega : x = 4 ∨ x < 4) with zx | zx
        · subst zx; rfl
        · rw [show 4 - x = (4 - (x + 1)) + 1 by omega]
          simp only [dgN]
          rw [if_neg (by first | assumption | omega)]
      refine j_aload_n hc dX5_readsDigits_48 rfl ?_
      refine j_callU (d' := d - 1) hc dX5_readsDigits_49 uX5_47_c4 zO.1 (ev_X3_here_c4 (by omega) zO.1 ⟨zT.1, zT.2⟩ hT (by omega) (by omega)) rfl (by omega) (by omega) (by omega) rfl rfl (Nat.le_of_ble_eq_true rfl) (ret1 ?_)
      refine j_callSU (d' := d - 1) hc dX5_readsDigits_52 qX5_92 rfl (ev_X3_isDigit (by omega) ⟨by omega, by omega⟩) rfl (by omega) (by omega) (by omega) rfl rfl (Nat.le_of_ble_eq_true rfl) (ret1 ?_)
      refine j_if_eq (b := 0) (tgt := 69) hc dX5_readsDigits_55 (by decide) (by split <;> exact ⟨by omega, by omega⟩) (fun zc2 => ?_) (fun zc2 => ?_)
      · have zd : ¬ dgS (hrS b n i) := one_neg zc2
        refine j_aload_n hc dX5_readsDigits_69 rfl ?_
        refine j_iload_n hc dX5_readsDigits_70 rfl ?_
        refine j_callV (d' := d - 1) hc dX5_readsDigits_71 vX5_65 zO.1 (ev_X5_writes (n := n) (by omega) ⟨zO.1, zO.2⟩ (by omega) (by omega) rfl (by omega) (by omega)) rfl (by omega) (by omega) (by omega) rfl rfl (Nat.le_of_ble_eq_true rfl) (retE fun zv71 zq71 zp71 => ?_)
        have zr71 := RrP.val zp71
        subst zr71
        have zq9 := zp71
        exact j_zret hc he dX5_readsDigits_74 rfl (by omega) (by omega) (by split <;> first | exact Or.inr rfl | exact Or.inl rfl) ⟨_, rfl, zq9.tr hfr (by unfold diS; rw [zst, if_neg zd])⟩
      · have zd : dgS (hrS b n i) := one_pos zc2
        refine j_aload_n hc dX5_readsDigits_58 rfl ?_
        refine j_aload_n hc dX5_readsDigits_59 rfl ?_
        refine j_get hc dX5_readsDigits_60 fX5_80 zO.1 rfl ?_
        refine j_callU (d' := d - 1) hc dX5_readsDigits_63 uX5_83_c4 zO.1 (ev_X3_isWrongAt_c4 (by omega) zO.1) rfl (by omega) (by omega) (by omega) rfl rfl (Nat.le_of_ble_eq_true rfl) (retE fun zv63 zq63 zp63 => ?_)
        obtain ⟨zv63_, zQw, zFw⟩ := zp63
        subst zv63_
        have zQ10_qw := (zFw _ (by first | (simp; done) | (simp; omega))).trans zO.2
        have zT_qw := (zFw _ (by first | (simp; done) | (simp; omega))).trans zT.1
        have zT2_qw := (zFw _ (by first | (simp; done) | (simp; omega))).trans zT.2
        refine j_goto (tgt := 74) hc dX5_readsDigits_66 (by decide) ?_
        exact j_zret hc he dX5_readsDigits_74 rfl (by omega) (by omega) (Or.inl rfl) ⟨_, rfl, RrP.fail (f0 := i) (by unfold diS; rw [zst, if_pos zd]; rfl) (by omega) ⟨zQw, zQ10_qw⟩ (by omega) (by omega) (by omega) (by omega) (Fr.tr (hfr) (zFw.mono fun z zz => (by first | exact zz | (rw [zz]; exact Or.inl rfl))))⟩
    · refine j_aload_n hc dX5_readsDigits_9 rfl ?_
      refine j_callU (d' := d - 1) hc dX5_readsDigits_10 uX5_47_c4 zO.1 (ev_X3_here_c4 (by omega) zO.1 ⟨zT.1, zT.2⟩ hT (by omega) (by omega)) rfl (by omega) (by omega) (by omega) rfl rfl (Nat.le_of_ble_eq_true rfl) (ret1 ?_)
      refine j_callSU (d' := d - 1) hc dX5_readsDigits_13 qX5_92 rfl (ev_X3_isDigit (by omega) ⟨by omega, by omega⟩) rfl (by omega) (by omega) (by omega) rfl rfl (Nat.le_of_ble_eq_true rfl) (ret1 ?_)
      refine j_if_eq (b := 0) (tgt := 48) hc dX5_readsDigits_16 (by decide) (by split <;> exact ⟨by omega, by omega⟩) (fun zc3 => ?_) (fun zc3 => ?_)
      · have zdg : ¬ dgS (hrS b n i) := one_neg zc3
        have zst : dgN b n 4 p0 0 = (i, v) := by
          rw [← hst]
          rcases (by omega : x = 4 ∨ x < 4) with zx | zx
          · subst zx; rfl
          · rw [show 4 - x = (4 - (x + 1)) + 1 by omega]
            simp only [dgN]
            rw [if_neg (by first | assumption | omega)]
        refine j_aload_n hc dX5_readsDigits_48 rfl ?_
        refine j_callU (d' := d - 1) hc dX5_readsDigits_49 uX5_47_c4 zO.1 (ev_X3_here_c4 (by omega) zO.1 ⟨zT.1, zT.2⟩ hT (by omega) (by omega)) rfl (by omega) (by omega) (by omega) rfl rfl (Nat.le_of_ble_eq_true rfl) (ret1 ?_)
        refine j_callSU (d' := d - 1) hc dX5_readsDigits_52 qX5_92 rfl (ev_X3_isDigit (by omega) ⟨by omega, by omega⟩) rfl (by omega) (by omega) (by omega) rfl rfl (Nat.le_of_ble_eq_true rfl) (ret1 ?_)
        refine j_if_eq (b := 0) (tgt := 69) hc dX5_readsDigits_55 (by decide) (by split <;> exact ⟨by omega, by omega⟩) (fun zc4 => ?_) (fun zc4 => ?_)
        · have zd : ¬ dgS (hrS b n i) := one_neg zc4
          refine j_aload_n hc dX5_readsDigits_69 rfl ?_
          refine j_iload_n hc dX5_readsDigits_70 rfl ?_
          refine j_callV (d' := d - 1) hc dX5_readsDigits_71 vX5_65 zO.1 (ev_X5_writes (n := n) (by omega) ⟨zO.1, zO.2⟩ (by omega) (by omega) rfl (by omega) (by omega)) rfl (by omega) (by omega) (by omega) rfl rfl (Nat.le_of_ble_eq_true rfl) (retE fun zv71 zq71 zp71 => ?_)
          have zr71 := RrP.val zp71
          subst zr71
          have zq9 := zp71
          exact j_zret hc he dX5_readsDigits_74 rfl (by omega) (by omega) (by split <;> first | exact Or.inr rfl | exact Or.inl rfl) ⟨_, rfl, zq9.tr hfr (by unfold diS; rw [zst, if_neg zd])⟩
        · have zd : dgS (hrS b n i) := one_pos zc4
          refine j_aload_n hc dX5_readsDigits_58 rfl ?_
          refine j_aload_n hc dX5_readsDigits_59 rfl ?_
          refine j_get hc dX5_readsDigits_60 fX5_80 zO.1 rfl ?_
          refine j_callU (d' := d - 1) hc dX5_readsDigits_63 uX5_83_c4 zO.1 (ev_X3_isWrongAt_c4 (by omega) zO.1) rfl (by omega) (by omega) (by omega) rfl rfl (Nat.le_of_ble_eq_true rfl) (retE fun zv63 zq63 zp63 => ?_)
          obtain ⟨zv63_, zQw, zFw⟩ := zp63
          subst zv63_
          have zQ10_qw := (zFw _ (by first | (simp; done) | (simp; omega))).trans zO.2
          have zT_qw := (zFw _ (by first | (simp; done) | (simp; omega))).trans zT.1
          have zT2_qw := (zFw _ (by first | (simp; done) | (simp; omega))).trans zT.2
          refine j_goto (tgt := 74) hc dX5_readsDigits_66 (by decide) ?_
          exact j_zret hc he dX5_readsDigits_74 rfl (by omega) (by omega) (Or.inl rfl) ⟨_, rfl, RrP.fail (f0 := i) (by unfold diS; rw [zst, if_pos zd]; rfl) (by omega) ⟨zQw, zQ10_qw⟩ (by omega) (by omega) (by omega) (by omega) (Fr.tr (hfr) (zFw.mono fun z zz => (by first | exact zz | (rw [zz]; exact Or.inl rfl))))⟩
      · have zdg : dgS (hrS b n i) := one_pos zc3
        have zlt : i < n := hrS_lt (b := b) (by omega) (by omega)
        refine j_iload_n hc dX5_readsDigits_19 rfl ?_
        refine j_bipush hc dX5_readsDigits_20 (by decide) ?_
        refine j_imul hc dX5_readsDigits_22 ?_
        refine j_aload_n hc dX5_readsDigits_23 rfl ?_
        refine j_callU (d' := d - 1) hc dX5_readsDigits_24 uX5_47_c4 zO.1 (ev_X3_here_c4 (by omega) zO.1 ⟨zT.1, zT.2⟩ hT (by omega) (by omega)) rfl (by omega) (by omega) (by omega) rfl rfl (Nat.le_of_ble_eq_true rfl) (ret1 ?_)
        refine j_iadd hc dX5_readsDigits_27 ?_
        refine j_bipush hc dX5_readsDigits_28 (by decide) ?_
        refine j_isub hc dX5_readsDigits_30 ?_
        refine j_istore_n (L' := [_, _, _]) hc dX5_readsDigits_31 (Nat.le_of_ble_eq_true rfl) rfl ?_
        refine j_aload_n hc dX5_readsDigits_32 rfl ?_
        refine j_dup hc dX5_readsDigits_33 rfl ?_
        refine j_get hc dX5_readsDigits_34 fX5_80 zO.1 rfl ?_
        refine j_iconst hc dX5_readsDigits_37 ?_
        refine j_iadd hc dX5_readsDigits_38 ?_
        refine j_put (fs' := [_, _, _, _, _]) hc dX5_readsDigits_39 pX5_80 zO.1 rfl rfl ?_
        generalize ezh1 : up _ _ _ = zh1
        have zQ_zh1 := (congrFun ezh1 _).symm.trans (up_same _ _ _)
        have zQ10_zh1 := (congrFun ezh1 _).symm.trans ((up_ne (by simp)).trans zO.2)
        have zT_zh1 := (congrFun ezh1 _).symm.trans ((up_ne (by simp)).trans zT.1)
        have zT2_zh1 := (congrFun ezh1 _).symm.trans ((up_ne (by simp)).trans zT.2)
        refine j_iinc (L' := [_, _, _]) hc dX5_readsDigits_42 rfl (Nat.le_of_ble_eq_true rfl) rfl ?_
        refine j_goto (tgt := 4) hc dX5_readsDigits_45 (by decide) ?_
        exact ih _ (by omega) (x + 1) _ _ _ rfl (by omega) (by omega) (by omega) (by omega) ⟨zQ_zh1, zQ10_zh1⟩ ⟨zT_zh1, zT2_zh1⟩ (by rw [← ezh1]; exact hfr.push (Or.inl rfl)) (by
          rw [← hst, show 4 - x = (4 - (x + 1)) + 1 by omega]
          simp only [dgN]
          rw [if_pos zdg])
set_option maxRecDepth 100000 in
set_option maxHeartbeats 4000000 in
theorem ev_X5_readsDigits {k : WC} {d : Nat} {h : AH} {b : Int → Int} {n i cl : Int} {cf : Int → Int} (hd : 2 ≤ d) (zO : RrO h i (-1) cl cf) (zT : TpA h b n) (hT : TpOK b n) (hi0 : 0 ≤ i) (hi1 : i ≤ n) (hc0 : 0 ≤ cl) (hc1 : cl ≤ i)  : Ev k d mdX5_readsDigits h [vR (9, 0)] 0 0 (pe fun v h' => RrP (diS b n i) n cl cf h h' v) := by
  obtain ⟨hn0, hn1, hb⟩ := id hT
  refine Ev.mk (by decide +kernel) [_, _, _] rfl (Nat.le_of_ble_eq_true rfl) (fun w hc he => ?_)
  refine j_iconst hc dX5_readsDigits_0 ?_
  refine j_istore_n (L' := [_, _, _]) hc dX5_readsDigits_1 (Nat.le_of_ble_eq_true rfl) rfl ?_
  refine j_iconst hc dX5_readsDigits_2 ?_
  refine j_istore_n (L' := [_, _, _]) hc dX5_readsDigits_3 (Nat.le_of_ble_eq_true rfl) rfl ?_
  exact lp_X5_readsDigits hd hT hc0 (by omega) hc he _ 0 i 0 h rfl (by omega) hi0 hi1 (by omega) zO zT (Fr.rf _ _) rfl
