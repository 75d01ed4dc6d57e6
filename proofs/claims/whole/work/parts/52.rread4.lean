/-! ===== units, truths, conditions ===== -/
def NtB (k : WC) (y : MD) (b : Int → Int) (n dp bg : Int) (c : Nat) (Q : Int → RP) : Prop := ∀ (d : Nat) (h : AH) (i cl : Int) (cf : Int → Int), c ≤ d → RrO h i (-1) cl cf → TpA h b n → 0 ≤ i → i ≤ n → 0 ≤ cl → cl ≤ i → Ev k d y h [vR (9, 0), vI dp, vI bg] 0 0 (pe fun v h' => RrP (Q i) n cl cf h h' v)
theorem unG_33n {b : Int → Int} {n i : Int} {S : Int → RP} (q : hrS b n (skS b n i) = 33) : unG b n none S i = rpF (skS b n i) := by unfold unG; rw [if_pos q]
theorem unG_33 {b : Int → Int} {n i : Int} {S u : Int → RP} (q : hrS b n (skS b n i) = 33) : unG b n (some u) S i = rpT (u (skS b n i + 1)) fun j t => (-1, j, t ++ [-15]) := by unfold unG; rw [if_pos q]
theorem unG_40n {b : Int → Int} {n i : Int} {S : Int → RP} (q : hrS b n (skS b n i) = 40) : unG b n none S i = rpF (skS b n i) := by unfold unG; rw [if_neg (by omega), if_pos q]
theorem unG_40 {b : Int → Int} {n i : Int} {S u : Int → RP} (q : hrS b n (skS b n i) = 40) : unG b n (some u) S i = brS b n 41 (coG b n u (u (skS b n i + 1))) := by unfold unG; rw [if_neg (by omega), if_pos q]
theorem unG_s {b : Int → Int} {n i : Int} {U : Option (Int → RP)} {S : Int → RP} (q : hrS b n (skS b n i) ≠ 33) (q2 : hrS b n (skS b n i) ≠ 40) : unG b n U S i = rpT (S (skS b n i)) fun j t => rpT (cmG b n S j) fun j' t' => (-1, j', t ++ t') := by unfold unG; rw [if_neg q, if_neg q2]
theorem lpT_end {b : Int → Int} {n : Int} {P : Int → RP} {c o : Int} {r : RP} (q : r.1 = -1) (q2 : ¬ hrS b n (skS b n r.2.1) = c) : ∀ m : Nat, 0 < m → lpT b n P c o m r = (-1, skS b n r.2.1, r.2.2)
  | 0, h => absurd h (by omega)
  | m + 1, _ => by simp only [lpT]; rw [if_pos q, if_neg q2]
theorem lpT_go {b : Int → Int} {n : Int} {P : Int → RP} {c o : Int} {r : RP} {m : Nat} (q : r.1 = -1) (q2 : hrS b n (skS b n r.2.1) = c) : lpT b n P c o (m + 1) r = lpT b n P c o m (rpT (P (skS b n r.2.1 + 1)) fun j t => (-1, j, r.2.2 ++ t ++ [o])) := by simp only [lpT]; rw [if_pos q, if_pos q2]
set_option maxRecDepth 100000 in
set_option maxHeartbeats 4000000 in
theorem nt_unit {k : WC} {b : Int → Int} {n dp : Int} {c : Nat} {U : Option (Int → RP)} {S : Int → RP} (hT : TpOK b n) (hdp0 : 0 ≤ dp) (hdp1 : dp ≤ 6) (hg : GdP n S) (hS : NtE k mdX5_readsSum b n dp c S) (hM : NtE k mdX5_readsComparison b n dp c (cmG b n S)) (h6 : U = none → dp = 6) (hU : ∀ u, U = some u → dp < 6 ∧ GdP n u ∧ NtE k mdX5_readsUnit b n (dp + 1) c u ∧ NtB k mdX5_readsCondition b n (dp + 1) 0 c (fun i => coG b n u (u i))) : NtE k mdX5_readsUnit b n dp (c + 3) (unG b n U S) := by
  intro d h i cl cf hd zO zT hi0 hi1 hc0 hc1
  obtain ⟨hn0, hn1, hb⟩ := id hT
  have zG0 := RrG.st zO
  have zl0 : (([] : List Int).length : Int) = 0 := rfl
  refine Ev.mk (by decide +kernel) [_, _] rfl (Nat.le_of_ble_eq_true rfl) (fun w hc he => ?_)
  refine j_aload_n hc dX5_readsUnit_0 rfl ?_
  refine j_callU (d' := d - 1) hc dX5_readsUnit_1 uX5_44_c4 zG0.1.1 (ev_X3_skipBlanks_c4 (b := b) (n := n) (by omega) zG0.1.1 (TpA.rr zG0.2 zT) hT (by omega) (by omega)) rfl (by omega) (by omega) (by omega) rfl rfl (Nat.le_of_ble_eq_true rfl) (retN fun zq1 zp1 => ?_)
  have zg114 := RrG.q9 zG0 zp1.1 zp1.2
  obtain ⟨zs1151, zs1152, zs1153⟩ := skS_b b n i
  have zs1152 := zs1152 (by omega)
  have zs115h := hrS_b hb (skS b n i)
  refine j_aload_n hc dX5_readsUnit_4 rfl ?_
  refine j_callU (d' := d - 1) hc dX5_readsUnit_5 uX5_47_c4 zg114.1.1 (ev_X3_here_c4 (b := b) (n := n) (by omega) zg114.1.1 (TpA.rr zg114.2 zT) hT (by omega) (by omega)) rfl (by omega) (by omega) (by omega) rfl rfl (Nat.le_of_ble_eq_true rfl) (ret1 ?_)
  refine j_bipush hc dX5_readsUnit_8 (by decide) ?_
  refine j_icmp_ne (tgt := 46) hc dX5_readsUnit_10 (by decide) ⟨by omega, by omega⟩ ⟨by omega, by omega⟩ (fun zc1 => ?_) (fun zc1 => ?_)
  · refine j_aload_n hc dX5_readsUnit_46 rfl ?_
    refine j_callU (d' := d - 1) hc dX5_readsUnit_47 uX5_47_c4 zg114.1.1 (ev_X3_here_c4 (b := b) (n := n) (by omega) zg114.1.1 (TpA.rr zg114.2 zT) hT (by omega) (by omega)) rfl (by omega) (by omega) (by omega) rfl rfl (Nat.le_of_ble_eq_true rfl) (ret1 ?_)
    refine j_bipush hc dX5_readsUnit_50 (by decide) ?_
    refine j_icmp_ne (tgt := 89) hc dX5_readsUnit_52 (by decide) ⟨by omega, by omega⟩ ⟨by omega, by omega⟩ (fun zc2 => ?_) (fun zc2 => ?_)
    · refine j_aload_n hc dX5_readsUnit_89 rfl ?_
      refine j_iload_n hc dX5_readsUnit_90 rfl ?_
      refine j_callV (d' := d - 1) hc dX5_readsUnit_91 vX5_57 zg114.1.1 (hS (d - 1) _ (skS b n i) _ _ (by omega) zg114.1 (TpA.rr zg114.2 zT) (by omega) (by omega) (by omega) (by omega)) rfl (by omega) (by omega) (by omega) rfl rfl (Nat.le_of_ble_eq_true rfl) (retE fun zv91 zq91 zp91 => ?_)
      have zp116 : RrP (S (skS b n i)) n _ _ _ _ _ := zp91
      have zvzp116 := RrP.val zp116
      subst zvzp116
      refine j_if_eq (b := 0) (tgt := 109) hc dX5_readsUnit_94 (by decide) (by split <;> exact ⟨by omega, by omega⟩) (fun zc3 => ?_) (fun zc3 => ?_)
      · have zu117 : ¬ (S (skS b n i)).1 = -1 := one_neg zc3
        have zx118 := RrG.bad zg114 zp116
        refine j_iconst hc dX5_readsUnit_109 ?_
        exact j_zret hc he dX5_readsUnit_110 rfl (by omega) (by omega) (Or.inl rfl) ⟨_, rfl, RrB.fin zx118 (by rw [unG_s (by omega) (by omega), rpT_no zu117]; rfl) zu117⟩
      · have zu119 : (S (skS b n i)).1 = -1 := one_pos zc3
        have zg120 := RrG.seq zg114 zp116 zu119
        have zb121 := (hg (skS b n i) (by omega) (by omega)).2.2 zu119
        have zlzg120 := lap [] (S (skS b n i)).2.2
        refine j_aload_n hc dX5_readsUnit_97 rfl ?_
        refine j_iload_n hc dX5_readsUnit_98 rfl ?_
        refine j_callV (d' := d - 1) hc dX5_readsUnit_99 vX5_71 zg120.1.1 (hM (d - 1) _ (S (skS b n i)).2.1 _ _ (by omega) zg120.1 (TpA.rr zg120.2 zT) (by omega) (by omega) (by omega) (by omega)) rfl (by omega) (by omega) (by omega) rfl rfl (Nat.le_of_ble_eq_true rfl) (retE fun zv99 zq99 zp99 => ?_)
        have zp122 : RrP (cmG b n S (S (skS b n i)).2.1) n _ _ _ _ _ := zp99
        have zvzp122 := RrP.val zp122
        subst zvzp122
        refine j_if_eq (b := 0) (tgt := 109) hc dX5_readsUnit_102 (by decide) (by split <;> exact ⟨by omega, by omega⟩) (fun zc4 => ?_) (fun zc4 => ?_)
        · have zu123 : ¬ (cmG b n S (S (skS b n i)).2.1).1 = -1 := one_neg zc4
          have zx124 := RrG.bad zg120 zp122
          refine j_iconst hc dX5_readsUnit_109 ?_
          exact j_zret hc he dX5_readsUnit_110 rfl (by omega) (by omega) (Or.inl rfl) ⟨_, rfl, RrB.fin zx124 (by rw [unG_s (by omega) (by omega), rpT_ok zu119, rpT_no zu123]; rfl) zu123⟩
        · have zu125 : (cmG b n S (S (skS b n i)).2.1).1 = -1 := one_pos zc4
          have zg126 := RrG.seq zg120 zp122 zu125
          have zb127 := (cmG_b hg (S (skS b n i)).2.1 (by omega) (by omega)).2.2 zu125
          have zlzg126 := lap ([] ++ (S (skS b n i)).2.2) (cmG b n S (S (skS b n i)).2.1).2.2
          refine j_iconst hc dX5_readsUnit_105 ?_
          refine j_goto (tgt := 110) hc dX5_readsUnit_106 (by decide) ?_
          exact j_zret hc he dX5_readsUnit_110 rfl (by omega) (by omega) (Or.inr rfl) ⟨_, rfl, RrG.fin zg126 (by rw [unG_s (by omega) (by omega), rpT_ok zu119, rpT_ok zu125]; simp only [List.nil_append]) (by omega) (by omega) (by omega) (by omega)⟩
    · have zlt : skS b n i < n := hrS_lt (b := b) (by omega) (by omega)
      refine j_aload_n hc dX5_readsUnit_55 rfl ?_
      refine j_iload_n hc dX5_readsUnit_56 rfl ?_
      refine j_callV (d' := d - 1) hc dX5_readsUnit_57 vX5_77 zg114.1.1 (ev_X5_goesDeeper (n := n) (by omega) zg114.1 (by omega) (by omega) (by omega) (by omega) hdp0 hdp1 (by omega)) rfl (by omega) (by omega) (by omega) rfl rfl (Nat.le_of_ble_eq_true rfl) (retE fun zv57 zq57 zp57 => ?_)
      have zp128 := zp57
      have zvzp128 := RrP.val zp128
      subst zvzp128
      refine j_if_eq (b := 0) (tgt := 87) hc dX5_readsUnit_60 (by decide) (by split <;> exact ⟨by omega, by omega⟩) (fun zc5 => ?_) (fun zc5 => ?_)
      · have zu129 : ¬ (if dp < 6 then ((-1, (skS b n i) + 1, []) : RP) else rpF (skS b n i)).1 = -1 := one_neg zc5
        have z6 : ¬ dp < 6 := fun z => zu129 (by rw [if_pos z])
        have zsm : U = none := by
          cases zx : U with
          | none => rfl
          | some s => exact absurd (hU s zx).1 z6
        have zx130 := RrG.bad zg114 zp128
        refine j_iconst hc dX5_readsUnit_87 ?_
        exact j_zret hc he dX5_readsUnit_88 rfl (by omega) (by omega) (Or.inl rfl) ⟨_, rfl, RrB.fin zx130 (by rw [zsm, unG_40n (by omega), if_neg z6]) zu129⟩
      · have zu132 : (if dp < 6 then ((-1, (skS b n i) + 1, []) : RP) else rpF (skS b n i)).1 = -1 := one_pos zc5
        have z6 : dp < 6 := by
          by_cases z : dp < 6
          · exact z
          · rw [if_neg z, rpF_1] at zu132; omega
        obtain ⟨u0, zsm⟩ : ∃ u0, U = some u0 := by
          cases zx : U with
          | none => exact absurd (h6 zx) (by omega)
          | some s => exact ⟨s, rfl⟩
        subst zsm
        obtain ⟨-, hg9, hu9, hc9⟩ := hU u0 rfl
        rw [if_pos z6] at zp128
        have zg131 : RrG ((skS b n i) + 1) ([] ++ []) cl cf h _ := RrG.seq zg114 zp128 rfl
        rw [List.append_nil] at zg131
        refine j_aload_n hc dX5_readsUnit_63 rfl ?_
        refine j_iload_n hc dX5_readsUnit_64 rfl ?_
        refine j_iconst hc dX5_readsUnit_65 ?_
        refine j_iadd hc dX5_readsUnit_66 ?_
        refine j_iconst hc dX5_readsUnit_67 ?_
        refine j_callV (d' := d - 1) hc dX5_readsUnit_68 vX5_50 zg131.1.1 (hc9 (d - 1) _ ((skS b n i) + 1) _ _ (by omega) zg131.1 (TpA.rr zg131.2 zT) (by omega) (by omega) (by omega) (by omega)) rfl (by omega) (by omega) (by omega) rfl rfl (Nat.le_of_ble_eq_true rfl) (retE fun zv68 zq68 zp68 => ?_)
        have zp133 : RrP (coG b n u0 (u0 ((skS b n i) + 1))) n _ _ _ _ _ := zp68
        have zvzp133 := RrP.val zp133
        subst zvzp133
        refine j_if_eq (b := 0) (tgt := 87) hc dX5_readsUnit_71 (by decide) (by split <;> exact ⟨by omega, by omega⟩) (fun zc6 => ?_) (fun zc6 => ?_)
        · have zu134 : ¬ (coG b n u0 (u0 ((skS b n i) + 1))).1 = -1 := one_neg zc6
          have zx135 := RrG.bad zg131 zp133
          refine j_iconst hc dX5_readsUnit_87 ?_
          exact j_zret hc he dX5_readsUnit_88 rfl (by omega) (by omega) (Or.inl rfl) ⟨_, rfl, RrB.fin zx135 (by rw [unG_40 (by omega)]; exact brS_no zu134) zu134⟩
        · have zu136 : (coG b n u0 (u0 ((skS b n i) + 1))).1 = -1 := one_pos zc6
          have zg137 := RrG.seq zg131 zp133 zu136
          have zb138 := (coG_b hg9 (by omega) (hg9 ((skS b n i) + 1) (by omega) (by omega))).2.2 zu136
          have zlzg137 := lap [] (coG b n u0 (u0 ((skS b n i) + 1))).2.2
          refine j_aload_n hc dX5_readsUnit_74 rfl ?_
          refine j_bipush hc dX5_readsUnit_75 (by decide) ?_
          refine j_callU (d' := d - 1) hc dX5_readsUnit_77 uX5_41_c4 zg137.1.1 (ev_X3_needs_c4 (b := b) (n := n) (i := (coG b n u0 (u0 ((skS b n i) + 1))).2.1) (cc := 41) (by omega) zg137.1.1 (TpA.rr zg137.2 zT) hT (by omega) (by omega) (by omega) (by omega)) rfl (by omega) (by omega) (by omega) rfl rfl (Nat.le_of_ble_eq_true rfl) (retE fun zv77 zq77 zp77 => ?_)
          have zp139 := needs_rr zg137.1 (by decide) (by omega) (by omega) (by omega) (by omega) zp77
          have zvzp139 := RrP.val zp139
          subst zvzp139
          refine j_if_eq (b := 0) (tgt := 87) hc dX5_readsUnit_80 (by decide) (by split <;> exact ⟨by omega, by omega⟩) (fun zc7 => ?_) (fun zc7 => ?_)
          · have zu140 : ¬ (neS b n 41 (coG b n u0 (u0 ((skS b n i) + 1))).2.1).1 = -1 := one_neg zc7
            have zx141 := RrG.bad zg137 zp139
            refine j_iconst hc dX5_readsUnit_87 ?_
            exact j_zret hc he dX5_readsUnit_88 rfl (by omega) (by omega) (Or.inl rfl) ⟨_, rfl, RrB.fin zx141 (by rw [unG_40 (by omega)]; exact brS_no2 zu136 zu140) zu140⟩
          · have zu143 : (neS b n 41 (coG b n u0 (u0 ((skS b n i) + 1))).2.1).1 = -1 := one_pos zc7
            have zb144 := (neS_b (b := b) (n := n) (c := 41) (i := (coG b n u0 (u0 ((skS b n i) + 1))).2.1) (by decide) (by omega) (by omega)).2.2 zu143
            have zg142 := RrG.seq zg137 zp139 zu143
            rw [neS_t, List.append_nil] at zg142
            refine j_iconst hc dX5_readsUnit_83 ?_
            refine j_goto (tgt := 88) hc dX5_readsUnit_84 (by decide) ?_
            exact j_zret hc he dX5_readsUnit_88 rfl (by omega) (by omega) (Or.inr rfl) ⟨_, rfl, RrG.fin zg142 (by rw [unG_40 (by omega), brS_ok zu136 zu143]; simp only [List.nil_append]) (by omega) (by omega) (by omega) (by omega)⟩
  · have zlt : skS b n i < n := hrS_lt (b := b) (by omega) (by omega)
    refine j_aload_n hc dX5_readsUnit_13 rfl ?_
    refine j_iload_n hc dX5_readsUnit_14 rfl ?_
    refine j_callV (d' := d - 1) hc dX5_readsUnit_15 vX5_77 zg114.1.1 (ev_X5_goesDeeper (n := n) (by omega) zg114.1 (by omega) (by omega) (by omega) (by omega) hdp0 hdp1 (by omega)) rfl (by omega) (by omega) (by omega) rfl rfl (Nat.le_of_ble_eq_true rfl) (retE fun zv15 zq15 zp15 => ?_)
    have zp145 := zp15
    have zvzp145 := RrP.val zp145
    subst zvzp145
    refine j_if_eq (b := 0) (tgt := 44) hc dX5_readsUnit_18 (by decide) (by split <;> exact ⟨by omega, by omega⟩) (fun zc8 => ?_) (fun zc8 => ?_)
    · have zu146 : ¬ (if dp < 6 then ((-1, (skS b n i) + 1, []) : RP) else rpF (skS b n i)).1 = -1 := one_neg zc8
      have z6 : ¬ dp < 6 := fun z => zu146 (by rw [if_pos z])
      have zsm : U = none := by
        cases zx : U with
        | none => rfl
        | some s => exact absurd (hU s zx).1 z6
      have zx147 := RrG.bad zg114 zp145
      refine j_iconst hc dX5_readsUnit_44 ?_
      exact j_zret hc he dX5_readsUnit_45 rfl (by omega) (by omega) (Or.inl rfl) ⟨_, rfl, RrB.fin zx147 (by rw [zsm, unG_33n (by omega), if_neg z6]) zu146⟩
    · have zu149 : (if dp < 6 then ((-1, (skS b n i) + 1, []) : RP) else rpF (skS b n i)).1 = -1 := one_pos zc8
      have z6 : dp < 6 := by
        by_cases z : dp < 6
        · exact z
        · rw [if_neg z, rpF_1] at zu149; omega
      obtain ⟨u0, zsm⟩ : ∃ u0, U = some u0 := by
        cases zx : U with
        | none => exact absurd (h6 zx) (by omega)
        | some s => exact ⟨s, rfl⟩
      subst zsm
      obtain ⟨-, hg9, hu9, hc9⟩ := hU u0 rfl
      rw [if_pos z6] at zp145
      have zg148 : RrG ((skS b n i) + 1) ([] ++ []) cl cf h _ := RrG.seq zg114 zp145 rfl
      rw [List.append_nil] at zg148
      refine j_aload_n hc dX5_readsUnit_21 rfl ?_
      refine j_iload_n hc dX5_readsUnit_22 rfl ?_
      refine j_iconst hc dX5_readsUnit_23 ?_
      refine j_iadd hc dX5_readsUnit_24 ?_
      refine j_callV (d' := d - 1) hc dX5_readsUnit_25 vX5_74 zg148.1.1 (hu9 (d - 1) _ ((skS b n i) + 1) _ _ (by omega) zg148.1 (TpA.rr zg148.2 zT) (by omega) (by omega) (by omega) (by omega)) rfl (by omega) (by omega) (by omega) rfl rfl (Nat.le_of_ble_eq_true rfl) (retE fun zv25 zq25 zp25 => ?_)
      have zp150 : RrP (u0 ((skS b n i) + 1)) n _ _ _ _ _ := zp25
      have zvzp150 := RrP.val zp150
      subst zvzp150
      refine j_if_eq (b := 0) (tgt := 44) hc dX5_readsUnit_28 (by decide) (by split <;> exact ⟨by omega, by omega⟩) (fun zc9 => ?_) (fun zc9 => ?_)
      · have zu151 : ¬ (u0 ((skS b n i) + 1)).1 = -1 := one_neg zc9
        have zx152 := RrG.bad zg148 zp150
        refine j_iconst hc dX5_readsUnit_44 ?_
        exact j_zret hc he dX5_readsUnit_45 rfl (by omega) (by omega) (Or.inl rfl) ⟨_, rfl, RrB.fin zx152 (by rw [unG_33 (by omega), rpT_no zu151]; rfl) zu151⟩
      · have zu153 : (u0 ((skS b n i) + 1)).1 = -1 := one_pos zc9
        have zg154 := RrG.seq zg148 zp150 zu153
        have zb155 := (hg9 ((skS b n i) + 1) (by omega) (by omega)).2.2 zu153
        have zlzg154 := lap [] (u0 ((skS b n i) + 1)).2.2
        refine j_aload_n hc dX5_readsUnit_31 rfl ?_
        refine j_bipush hc dX5_readsUnit_32 (by decide) ?_
        refine j_callV (d' := d - 1) hc dX5_readsUnit_34 vX5_65 zg154.1.1 (ev_X5_writes (n := n) (x := (-15)) (by omega) zg154.1 (by omega) (by omega) rfl (by omega) (by omega)) rfl (by omega) (by omega) (by omega) rfl rfl (Nat.le_of_ble_eq_true rfl) (retE fun zv34 zq34 zp34 => ?_)
        obtain ⟨zvzg156, zg156⟩ := RrG.wr zg154 zp34
        subst zvzg156
        have zlzg156 := lap1 ([] ++ (u0 ((skS b n i) + 1)).2.2) ((-15))
        refine j_if_eq (b := 0) (tgt := 44) hc dX5_readsUnit_37 (by decide) ⟨by omega, by omega⟩ (fun zc10 => ?_) (fun zc10 => ?_)
        · exact absurd zc10 (by decide)
        · refine j_iconst hc dX5_readsUnit_40 ?_
          refine j_goto (tgt := 45) hc dX5_readsUnit_41 (by decide) ?_
          exact j_zret hc he dX5_readsUnit_45 rfl (by omega) (by omega) (Or.inr rfl) ⟨_, rfl, RrG.fin zg156 (by rw [unG_33 (by omega), rpT_ok zu153]; simp only [List.nil_append]) (by omega) (by omega) (by omega) (by omega)⟩
set_option maxRecDepth 100000 in
set_option maxHeartbeats 4000000 in
theorem lp_X5_readsTruth {k : WC} {d : Nat} {w : MC} {h : AH} {b : Int → Int} {n dp bg i cl : Int} {c : Nat} {cf : Int → Int} {P : Int → RP} {r0 : RP} (hT : TpOK b n) (hg : GdP n P) (hP : NtE k mdX5_readsUnit b n dp c P) (hd : c + 1 ≤ d) (hd2 : 3 ≤ d) (zT : TpA h b n) (hi0 : 0 ≤ i) (hc0 : 0 ≤ cl) (hc1 : cl ≤ i) (hc : Cx w k d 0 0 mdX5_readsTruth) (he : Ends w 0 0 (pe fun v h' => RrP (lpT b n P 38 (-13) 240 r0) n cl cf h h' v)) : ∀ (zm : Nat) (x : Nat) (r : RP) (v : AV) (h' : AH), 240 - x = zm → x ≤ 240 → RpB n i r → RrP r n cl cf h h' v → lpT b n P 38 (-13) (240 - x) r = lpT b n P 38 (-13) 240 r0 → J w 0 0 21 [some (vR (9, 0)), some (vI dp), some (vI bg), some v, some (vI x)] [] h' := by
  intro zm
  induction zm using Nat.strongRecOn with
  | _ zm ih =>
    intro x r v h' hm hx hB hr hst
    obtain ⟨hn0, hn1, hb⟩ := id hT
    have zvr := RrP.val hr
    subst zvr
    refine j_iload hc dX5_readsTruth_21 rfl ?_
    refine j_sipush hc dX5_readsTruth_23 (by decide) ?_
    refine j_icmp_ge (tgt := 71) hc dX5_readsTruth_26 (by decide) ⟨by omega, by omega⟩ ⟨by omega, by omega⟩ (fun zc1 => ?_) (fun zc1 => ?_)
    · have zx9 : 240 - x = 0 := by omega
      refine j_iload_n hc dX5_readsTruth_71 rfl ?_
      exact j_zret hc he dX5_readsTruth_72 rfl (by omega) (by omega) (by split <;> first | exact Or.inr rfl | exact Or.inl rfl) ⟨_, rfl, by rw [← hst, zx9, lpT]; exact hr⟩
    · refine j_iload_n hc dX5_readsTruth_29 rfl ?_
      refine j_if_eq (b := 0) (tgt := 71) hc dX5_readsTruth_30 (by decide) (by split <;> exact ⟨by omega, by omega⟩) (fun zc2 => ?_) (fun zc2 => ?_)
      · have zu9 : ¬ r.1 = -1 := one_neg zc2
        refine j_iload_n hc dX5_readsTruth_71 rfl ?_
        exact j_zret hc he dX5_readsTruth_72 rfl (by omega) (by omega) (by split <;> first | exact Or.inr rfl | exact Or.inl rfl) ⟨_, rfl, by rw [← hst, lpT_bad zu9]; exact hr⟩
      · have zu9 : r.1 = -1 := one_pos zc2
        have zG1 := RrP.good hr zu9
        obtain ⟨zr1, zr2, zr3⟩ := hB.2.2 zu9
        obtain ⟨zs1, zs2, -⟩ := skS_b b n r.2.1
        have zs2 := zs2 zr2
        refine j_aload_n hc dX5_readsTruth_33 rfl ?_
        refine j_bipush hc dX5_readsTruth_34 (by decide) ?_
        refine j_callU (d' := d - 1) hc dX5_readsTruth_36 uX5_27_c4 zG1.1.1 (ev_X3_takes_c4 (b := b) (n := n) (i := r.2.1) (cc := 38) (by omega) zG1.1.1 (TpA.rr zG1.2 zT) hT (by omega) (by omega) (by omega) (by omega)) rfl (by omega) (by omega) (by omega) rfl rfl (Nat.le_of_ble_eq_true rfl) (retE fun zv36 zq36 zp36 => ?_)
        obtain ⟨zv9, zq9, zf9⟩ := zp36
        subst zv9
        refine j_if_eq (b := 0) (tgt := 71) hc dX5_readsTruth_39 (by decide) (by split <;> exact ⟨by omega, by omega⟩) (fun zc3 => ?_) (fun zc3 => ?_)
        · have zn9 : ¬ hrS b n (skS b n r.2.1) = 38 := one_neg zc3
          rw [if_neg zn9] at zq9
          have zG2 := RrG.q9 zG1 zq9 zf9
          refine j_iload_n hc dX5_readsTruth_71 rfl ?_
          exact j_zret hc he dX5_readsTruth_72 rfl (by omega) (by omega) (by split <;> first | exact Or.inr rfl | exact Or.inl rfl) ⟨_, rfl, by rw [← hst, lpT_end zu9 zn9 _ (by omega), if_pos zu9]; exact RrG.fin zG2 rfl (by omega) (by omega) (by omega) (by omega)⟩
        · have zy9 : hrS b n (skS b n r.2.1) = 38 := one_pos zc3
          rw [if_pos zy9] at zq9
          have zG2 := RrG.q9 zG1 zq9 zf9
          have zlt : skS b n r.2.1 < n := hrS_lt (b := b) (by omega) (by omega)
          refine j_aload_n hc dX5_readsTruth_42 rfl ?_
          refine j_iload_n hc dX5_readsTruth_43 rfl ?_
          refine j_callV (d' := d - 1) hc dX5_readsTruth_44 vX5_74 zG2.1.1 (hP (d - 1) _ (skS b n r.2.1 + 1) _ _ (by omega) zG2.1 (TpA.rr zG2.2 zT) (by omega) (by omega) (by omega) (by omega)) rfl (by omega) (by omega) (by omega) rfl rfl (Nat.le_of_ble_eq_true rfl) (retE fun zv44 zq44 zp44 => ?_)
          have zp157 : RrP (P (skS b n r.2.1 + 1)) n _ _ _ _ _ := zp44
          have zvzp157 := RrP.val zp157
          subst zvzp157
          refine j_if_eq (b := 0) (tgt := 63) hc dX5_readsTruth_47 (by decide) (by split <;> exact ⟨by omega, by omega⟩) (fun zc4 => ?_) (fun zc4 => ?_)
          · have zu158 : ¬ (P (skS b n r.2.1 + 1)).1 = -1 := one_neg zc4
            have zx159 := RrG.bad zG2 zp157
            refine j_iconst hc dX5_readsTruth_63 ?_
            refine j_istore_n (L' := [_, _, _, _, _]) hc dX5_readsTruth_64 (Nat.le_of_ble_eq_true rfl) rfl ?_
            refine j_iinc (L' := [_, _, _, _, _]) hc dX5_readsTruth_65 rfl (Nat.le_of_ble_eq_true rfl) rfl ?_
            refine j_goto (tgt := 21) hc dX5_readsTruth_68 (by decide) ?_
            exact ih _ (by omega) (x + 1) (rpT (P (skS b n r.2.1 + 1)) fun j t => (-1, j, r.2.2 ++ t ++ [-13])) _ _ rfl (by omega) (((hg (skS b n r.2.1 + 1) (by omega) (by omega)).mono (by omega)).t fun zq => by
                have zy1 := (hg (skS b n r.2.1 + 1) (by omega) (by omega)).2.2 zq
                exact ⟨by simp, by show (-1 : Int) ≤ n; omega, fun _ => by simp only [List.length_append, List.length_cons, List.length_nil]; omega⟩) (RrB.fin zx159 (by rw [rpT_no zu158]; rfl) zu158) (by rw [← hst, show 240 - x = (240 - (x + 1)) + 1 by omega, lpT_go zu9 zy9])
          · have zu160 : (P (skS b n r.2.1 + 1)).1 = -1 := one_pos zc4
            have zg161 := RrG.seq zG2 zp157 zu160
            have zb162 := (hg (skS b n r.2.1 + 1) (by omega) (by omega)).2.2 zu160
            have zlzg161 := lap r.2.2 (P (skS b n r.2.1 + 1)).2.2
            refine j_aload_n hc dX5_readsTruth_50 rfl ?_
            refine j_bipush hc dX5_readsTruth_51 (by decide) ?_
            refine j_callV (d' := d - 1) hc dX5_readsTruth_53 vX5_65 zg161.1.1 (ev_X5_writes (n := n) (x := (-13)) (by omega) zg161.1 (by omega) (by omega) rfl (by omega) (by omega)) rfl (by omega) (by omega) (by omega) rfl rfl (Nat.le_of_ble_eq_true rfl) (retE fun zv53 zq53 zp53 => ?_)
            obtain ⟨zvzg163, zg163⟩ := RrG.wr zg161 zp53
            subst zvzg163
            have zlzg163 := lap1 (r.2.2 ++ (P (skS b n r.2.1 + 1)).2.2) ((-13))
            refine j_if_eq (b := 0) (tgt := 63) hc dX5_readsTruth_56 (by decide) ⟨by omega, by omega⟩ (fun zc5 => ?_) (fun zc5 => ?_)
            · exact absurd zc5 (by decide)
            · refine j_iconst hc dX5_readsTruth_59 ?_
              refine j_goto (tgt := 64) hc dX5_readsTruth_60 (by decide) ?_
              refine j_istore_n (L' := [_, _, _, _, _]) hc dX5_readsTruth_64 (Nat.le_of_ble_eq_true rfl) rfl ?_
              refine j_iinc (L' := [_, _, _, _, _]) hc dX5_readsTruth_65 rfl (Nat.le_of_ble_eq_true rfl) rfl ?_
              refine j_goto (tgt := 21) hc dX5_readsTruth_68 (by decide) ?_
              exact ih _ (by omega) (x + 1) (rpT (P (skS b n r.2.1 + 1)) fun j t => (-1, j, r.2.2 ++ t ++ [-13])) _ _ rfl (by omega) (((hg (skS b n r.2.1 + 1) (by omega) (by omega)).mono (by omega)).t fun zq => by
                  have zy1 := (hg (skS b n r.2.1 + 1) (by omega) (by omega)).2.2 zq
                  exact ⟨by simp, by show (-1 : Int) ≤ n; omega, fun _ => by simp only [List.length_append, List.length_cons, List.length_nil]; omega⟩) (RrG.fin zg163 (by rw [rpT_ok zu160]) (by omega) (by omega) (by omega) (by omega)) (by rw [← hst, show 240 - x = (240 - (x + 1)) + 1 by omega, lpT_go zu9 zy9])
set_option maxRecDepth 100000 in
set_option maxHeartbeats 4000000 in
theorem lp_X5_readsCondition {k : WC} {d : Nat} {w : MC} {h : AH} {b : Int → Int} {n dp bg i cl : Int} {c : Nat} {cf : Int → Int} {P : Int → RP} {r0 : RP} (hT : TpOK b n) (hg : GdP n P) (hP : NtB k mdX5_readsTruth b n dp 0 c P) (hd : c + 1 ≤ d) (hd2 : 3 ≤ d) (zT : TpA h b n) (hi0 : 0 ≤ i) (hc0 : 0 ≤ cl) (hc1 : cl ≤ i) (hc : Cx w k d 0 0 mdX5_readsCondition) (he : Ends w 0 0 (pe fun v h' => RrP (lpT b n P 124 (-14) 240 r0) n cl cf h h' v)) : ∀ (zm : Nat) (x : Nat) (r : RP) (v : AV) (h' : AH), 240 - x = zm → x ≤ 240 → RpB n i r → RrP r n cl cf h h' v → lpT b n P 124 (-14) (240 - x) r = lpT b n P 124 (-14) 240 r0 → J w 0 0 10 [some (vR (9, 0)), some (vI dp), some (vI bg), some v, some (vI x)] [] h' := by
  intro zm
  induction zm using Nat.strongRecOn with
  | _ zm ih =>
    intro x r v h' hm hx hB hr hst
    obtain ⟨hn0, hn1, hb⟩ := id hT
    have zvr := RrP.val hr
    subst zvr
    refine j_iload hc dX5_readsCondition_10 rfl ?_
    refine j_sipush hc dX5_readsCondition_12 (by decide) ?_
    refine j_icmp_ge (tgt := 61) hc dX5_readsCondition_15 (by decide) ⟨by omega, by omega⟩ ⟨by omega, by omega⟩ (fun zc1 => ?_) (fun zc1 => ?_)
    · have zx9 : 240 - x = 0 := by omega
      refine j_iload_n hc dX5_readsCondition_61 rfl ?_
      exact j_zret hc he dX5_readsCondition_62 rfl (by omega) (by omega) (by split <;> first | exact Or.inr rfl | exact Or.inl rfl) ⟨_, rfl, by rw [← hst, zx9, lpT]; exact hr⟩
    · refine j_iload_n hc dX5_readsCondition_18 rfl ?_
      refine j_if_eq (b := 0) (tgt := 61) hc dX5_readsCondition_19 (by decide) (by split <;> exact ⟨by omega, by omega⟩) (fun zc2 => ?_) (fun zc2 => ?_)
      · have zu9 : ¬ r.1 = -1 := one_neg zc2
        refine j_iload_n hc dX5_readsCondition_61 rfl ?_
        exact j_zret hc he dX5_readsCondition_62 rfl (by omega) (by omega) (by split <;> first | exact Or.inr rfl | exact Or.inl rfl) ⟨_, rfl, by rw [← hst, lpT_bad zu9]; exact hr⟩
      · have zu9 : r.1 = -1 := one_pos zc2
        have zG1 := RrP.good hr zu9
        obtain ⟨zr1, zr2, zr3⟩ := hB.2.2 zu9
        obtain ⟨zs1, zs2, -⟩ := skS_b b n r.2.1
        have zs2 := zs2 zr2
        refine j_aload_n hc dX5_readsCondition_22 rfl ?_
        refine j_bipush hc dX5_readsCondition_23 (by decide) ?_
        refine j_callU (d' := d - 1) hc dX5_readsCondition_25 uX5_27_c4 zG1.1.1 (ev_X3_takes_c4 (b := b) (n := n) (i := r.2.1) (cc := 124) (by omega) zG1.1.1 (TpA.rr zG1.2 zT) hT (by omega) (by omega) (by omega) (by omega)) rfl (by omega) (by omega) (by omega) rfl rfl (Nat.le_of_ble_eq_true rfl) (retE fun zv25 zq25 zp25 => ?_)
        obtain ⟨zv9, zq9, zf9⟩ := zp25
        subst zv9
        refine j_if_eq (b := 0) (tgt := 61) hc dX5_readsCondition_28 (by decide) (by split <;> exact ⟨by omega, by omega⟩) (fun zc3 => ?_) (fun zc3 => ?_)
        · have zn9 : ¬ hrS b n (skS b n r.2.1) = 124 := one_neg zc3
          rw [if_neg zn9] at zq9
          have zG2 := RrG.q9 zG1 zq9 zf9
          refine j_iload_n hc dX5_readsCondition_61 rfl ?_
          exact j_zret hc he dX5_readsCondition_62 rfl (by omega) (by omega) (by split <;> first | exact Or.inr rfl | exact Or.inl rfl) ⟨_, rfl, by rw [← hst, lpT_end zu9 zn9 _ (by omega), if_pos zu9]; exact RrG.fin zG2 rfl (by omega) (by omega) (by omega) (by omega)⟩
        · have zy9 : hrS b n (skS b n r.2.1) = 124 := one_pos zc3
          rw [if_pos zy9] at zq9
          have zG2 := RrG.q9 zG1 zq9 zf9
          have zlt : skS b n r.2.1 < n := hrS_lt (b := b) (by omega) (by omega)
          refine j_aload_n hc dX5_readsCondition_31 rfl ?_
          refine j_iload_n hc dX5_readsCondition_32 rfl ?_
          refine j_iconst hc dX5_readsCondition_33 ?_
          refine j_callV (d' := d - 1) hc dX5_readsCondition_34 vX5_68 zG2.1.1 (hP (d - 1) _ (skS b n r.2.1 + 1) _ _ (by omega) zG2.1 (TpA.rr zG2.2 zT) (by omega) (by omega) (by omega) (by omega)) rfl (by omega) (by omega) (by omega) rfl rfl (Nat.le_of_ble_eq_true rfl) (retE fun zv34 zq34 zp34 => ?_)
          have zp164 : RrP (P (skS b n r.2.1 + 1)) n _ _ _ _ _ := zp34
          have zvzp164 := RrP.val zp164
          subst zvzp164
          refine j_if_eq (b := 0) (tgt := 53) hc dX5_readsCondition_37 (by decide) (by split <;> exact ⟨by omega, by omega⟩) (fun zc4 => ?_) (fun zc4 => ?_)
          · have zu165 : ¬ (P (skS b n r.2.1 + 1)).1 = -1 := one_neg zc4
            have zx166 := RrG.bad zG2 zp164
            refine j_iconst hc dX5_readsCondition_53 ?_
            refine j_istore_n (L' := [_, _, _, _, _]) hc dX5_readsCondition_54 (Nat.le_of_ble_eq_true rfl) rfl ?_
            refine j_iinc (L' := [_, _, _, _, _]) hc dX5_readsCondition_55 rfl (Nat.le_of_ble_eq_true rfl) rfl ?_
            refine j_goto (tgt := 10) hc dX5_readsCondition_58 (by decide) ?_
            exact ih _ (by omega) (x + 1) (rpT (P (skS b n r.2.1 + 1)) fun j t => (-1, j, r.2.2 ++ t ++ [-14])) _ _ rfl (by omega) (((hg (skS b n r.2.1 + 1) (by omega) (by omega)).mono (by omega)).t fun zq => by
                have zy1 := (hg (skS b n r.2.1 + 1) (by omega) (by omega)).2.2 zq
                exact ⟨by simp, by show (-1 : Int) ≤ n; omega, fun _ => by simp only [List.length_append, List.length_cons, List.length_nil]; omega⟩) (RrB.fin zx166 (by rw [rpT_no zu165]; rfl) zu165) (by rw [← hst, show 240 - x = (240 - (x + 1)) + 1 by omega, lpT_go zu9 zy9])
          · have zu167 : (P (skS b n r.2.1 + 1)).1 = -1 := one_pos zc4
            have zg168 := RrG.seq zG2 zp164 zu167
            have zb169 := (hg (skS b n r.2.1 + 1) (by omega) (by omega)).2.2 zu167
            have zlzg168 := lap r.2.2 (P (skS b n r.2.1 + 1)).2.2
            refine j_aload_n hc dX5_readsCondition_40 rfl ?_
            refine j_bipush hc dX5_readsCondition_41 (by decide) ?_
            refine j_callV (d' := d - 1) hc dX5_readsCondition_43 vX5_65 zg168.1.1 (ev_X5_writes (n := n) (x := (-14)) (by omega) zg168.1 (by omega) (by omega) rfl (by omega) (by omega)) rfl (by omega) (by omega) (by omega) rfl rfl (Nat.le_of_ble_eq_true rfl) (retE fun zv43 zq43 zp43 => ?_)
            obtain ⟨zvzg170, zg170⟩ := RrG.wr zg168 zp43
            subst zvzg170
            have zlzg170 := lap1 (r.2.2 ++ (P (skS b n r.2.1 + 1)).2.2) ((-14))
            refine j_if_eq (b := 0) (tgt := 53) hc dX5_readsCondition_46 (by decide) ⟨by omega, by omega⟩ (fun zc5 => ?_) (fun zc5 => ?_)
            · exact absurd zc5 (by decide)
            · refine j_iconst hc dX5_readsCondition_49 ?_
              refine j_goto (tgt := 54) hc dX5_readsCondition_50 (by decide) ?_
              refine j_istore_n (L' := [_, _, _, _, _]) hc dX5_readsCondition_54 (Nat.le_of_ble_eq_true rfl) rfl ?_
              refine j_iinc (L' := [_, _, _, _, _]) hc dX5_readsCondition_55 rfl (Nat.le_of_ble_eq_true rfl) rfl ?_
              refine j_goto (tgt := 10) hc dX5_readsCondition_58 (by decide) ?_
              exact ih _ (by omega) (x + 1) (rpT (P (skS b n r.2.1 + 1)) fun j t => (-1, j, r.2.2 ++ t ++ [-14])) _ _ rfl (by omega) (((hg (skS b n r.2.1 + 1) (by omega) (by omega)).mono (by omega)).t fun zq => by
                  have zy1 := (hg (skS b n r.2.1 + 1) (by omega) (by omega)).2.2 zq
                  exact ⟨by simp, by show (-1 : Int) ≤ n; omega, fun _ => by simp only [List.length_append, List.length_cons, List.length_nil]; omega⟩) (RrG.fin zg170 (by rw [rpT_ok zu167]) (by omega) (by omega) (by omega) (by omega)) (by rw [← hst, show 240 - x = (240 - (x + 1)) + 1 by omega, lpT_go zu9 zy9])
set_option maxRecDepth 100000 in
set_option maxHeartbeats 4000000 in
theorem nt_truth {k : WC} {b : Int → Int} {n dp bg : Int} {c : Nat} {U W : Int → RP} (hT : TpOK b n) (hg : GdP n U) (hgW : GdP n W) (hU : NtE k mdX5_readsUnit b n dp c U) (hW : (bg = 0 ∧ NtE k mdX5_readsUnit b n dp c W) ∨ (bg = 1 ∧ NtE k mdX5_readsComparison b n dp c W)) : NtB k mdX5_readsTruth b n dp bg (c + 3) (fun i => trG b n U (W i)) := by
  intro d h i cl cf hd zO zT hi0 hi1 hc0 hc1
  obtain ⟨hn0, hn1, hb⟩ := id hT
  have zG0 := RrG.st zO
  have zl0 : (([] : List Int).length : Int) = 0 := rfl
  refine Ev.mk (by decide +kernel) [_, _, _, _, _] rfl (Nat.le_of_ble_eq_true rfl) (fun w hc he => ?_)
  refine j_iload_n hc dX5_readsTruth_0 rfl ?_
  refine j_if_eq (b := 0) (tgt := 12) hc dX5_readsTruth_1 (by decide) (by rcases hW with ⟨zb, _⟩ | ⟨zb, _⟩ <;> exact ⟨by omega, by omega⟩) (fun zc1 => ?_) (fun zc1 => ?_)
  · have hW9 : NtE k mdX5_readsUnit b n dp c W := by
      rcases hW with ⟨_, z⟩ | ⟨z, _⟩
      · exact z
      · omega
    refine j_aload_n hc dX5_readsTruth_12 rfl ?_
    refine j_iload_n hc dX5_readsTruth_13 rfl ?_
    refine j_callV (d' := d - 1) hc dX5_readsTruth_14 vX5_74 zG0.1.1 (hW9 (d - 1) _ i _ _ (by omega) zO zT (by omega) (by omega) (by omega) (by omega)) rfl (by omega) (by omega) (by omega) rfl rfl (Nat.le_of_ble_eq_true rfl) (retE fun zv14 zq14 zp14 => ?_)
    have zp0 : RrP (W i) n _ _ _ _ _ := zp14
    have zvp0 := RrP.val zp0
    subst zvp0
    refine j_istore_n (L' := [_, _, _, _, _]) hc dX5_readsTruth_17 (Nat.le_of_ble_eq_true rfl) rfl ?_
    refine j_iconst hc dX5_readsTruth_18 ?_
    refine j_istore (L' := [_, _, _, _, _]) hc dX5_readsTruth_19 (Nat.le_of_ble_eq_true rfl) rfl ?_
    exact lp_X5_readsTruth hT hg hU (by omega) (by omega) zT hi0 hc0 hc1 hc he _ 0 _ _ _ rfl (by omega) (hgW i hi0 hi1) zp0 rfl
  · have hW9 : NtE k mdX5_readsComparison b n dp c W := by
      rcases hW with ⟨z, _⟩ | ⟨_, z⟩
      · omega
      · exact z
    refine j_aload_n hc dX5_readsTruth_4 rfl ?_
    refine j_iload_n hc dX5_readsTruth_5 rfl ?_
    refine j_callV (d' := d - 1) hc dX5_readsTruth_6 vX5_71 zG0.1.1 (hW9 (d - 1) _ i _ _ (by omega) zO zT (by omega) (by omega) (by omega) (by omega)) rfl (by omega) (by omega) (by omega) rfl rfl (Nat.le_of_ble_eq_true rfl) (retE fun zv6 zq6 zp6 => ?_)
    have zp0 : RrP (W i) n _ _ _ _ _ := zp6
    have zvp0 := RrP.val zp0
    subst zvp0
    refine j_goto (tgt := 17) hc dX5_readsTruth_9 (by decide) ?_
    refine j_istore_n (L' := [_, _, _, _, _]) hc dX5_readsTruth_17 (Nat.le_of_ble_eq_true rfl) rfl ?_
    refine j_iconst hc dX5_readsTruth_18 ?_
    refine j_istore (L' := [_, _, _, _, _]) hc dX5_readsTruth_19 (Nat.le_of_ble_eq_true rfl) rfl ?_
    exact lp_X5_readsTruth hT hg hU (by omega) (by omega) zT hi0 hc0 hc1 hc he _ 0 _ _ _ rfl (by omega) (hgW i hi0 hi1) zp0 rfl
set_option maxRecDepth 100000 in
set_option maxHeartbeats 4000000 in
theorem nt_cond {k : WC} {b : Int → Int} {n dp bg : Int} {c : Nat} {U W : Int → RP} (hT : TpOK b n) (hg : GdP n U) (hgW : GdP n W) (hU : NtB k mdX5_readsTruth b n dp 0 c (fun i => trG b n U (U i))) (hW : NtB k mdX5_readsTruth b n dp bg c (fun i => trG b n U (W i))) : NtB k mdX5_readsCondition b n dp bg (c + 3) (fun i => coG b n U (W i)) := by
  intro d h i cl cf hd zO zT hi0 hi1 hc0 hc1
  obtain ⟨hn0, hn1, hb⟩ := id hT
  have zG0 := RrG.st zO
  have zl0 : (([] : List Int).length : Int) = 0 := rfl
  refine Ev.mk (by decide +kernel) [_, _, _, _, _] rfl (Nat.le_of_ble_eq_true rfl) (fun w hc he => ?_)
  refine j_aload_n hc dX5_readsCondition_0 rfl ?_
  refine j_iload_n hc dX5_readsCondition_1 rfl ?_
  refine j_iload_n hc dX5_readsCondition_2 rfl ?_
  refine j_callV (d' := d - 1) hc dX5_readsCondition_3 vX5_68 zG0.1.1 (hW (d - 1) _ i _ _ (by omega) zO zT (by omega) (by omega) (by omega) (by omega)) rfl (by omega) (by omega) (by omega) rfl rfl (Nat.le_of_ble_eq_true rfl) (retE fun zv3 zq3 zp3 => ?_)
  have zp0 : RrP (trG b n U (W i)) n _ _ _ _ _ := zp3
  have zvp0 := RrP.val zp0
  subst zvp0
  refine j_istore_n (L' := [_, _, _, _, _]) hc dX5_readsCondition_6 (Nat.le_of_ble_eq_true rfl) rfl ?_
  refine j_iconst hc dX5_readsCondition_7 ?_
  refine j_istore (L' := [_, _, _, _, _]) hc dX5_readsCondition_8 (Nat.le_of_ble_eq_true rfl) rfl ?_
  exact lp_X5_readsCondition hT (fun j a c => trG_b hg a (hg j a c)) hU (by omega) (by omega) zT hi0 hc0 hc1 hc he _ 0 _ _ _ rfl (by omega) (trG_b hg hi0 (hgW i hi0 hi1)) zp0 rfl
/-- all of it, with K levels to go -/
theorem nt_smK {k : WC} {b : Int → Int} {n : Int} (hT : TpOK b n) : ∀ K : Nat, K ≤ 6 → NtE k mdX5_readsSum b n (6 - K) (7 * K + 7) (smK b n K)
  | 0, _ => by
    have h1 := nt_atom (k := k) (dp := 6) (c := 0) (sm := none) hT (by omega) (by omega) (fun _ => rfl) (fun s h => by cases h)
    have g1 : GdP n (atG b n none) := atG_b fun s h => by cases h
    have h2 := nt_X5_readsTerm hT g1 h1
    exact nt_X5_readsSum hT (tmG_b g1) h2
  | K + 1, hK => by
    have h0 := nt_smK (k := k) hT K (by omega)
    have e : (6 : Int) - ((K + 1 : Nat) : Int) + 1 = 6 - (K : Int) := by omega
    have h1 := nt_atom (k := k) (dp := 6 - ((K + 1 : Nat) : Int)) (c := 7 * K + 7) (sm := some (smK b n K)) hT (by omega) (by omega) (fun h => by cases h) (fun s h => by
      cases h
      exact ⟨by omega, smK_b b n K, by rw [e]; exact h0⟩)
    have g1 : GdP n (atG b n (some (smK b n K))) := atG_b fun s h => by cases h; exact smK_b b n K
    have h2 := nt_X5_readsTerm hT g1 h1
    have h3 := nt_X5_readsSum hT (tmG_b g1) h2
    exact h3
theorem NtE.up {k : WC} {y : MD} {b : Int → Int} {n dp : Int} {c c' : Nat} {Q : Int → RP} (h : NtE k y b n dp c Q) (hc : c ≤ c') : NtE k y b n dp c' Q := fun d h' i cl cf hd => h d h' i cl cf (by omega)
theorem NtB.up {k : WC} {y : MD} {b : Int → Int} {n dp bg : Int} {c c' : Nat} {Q : Int → RP} (h : NtB k y b n dp bg c Q) (hc : c ≤ c') : NtB k y b n dp bg c' Q := fun d h' i cl cf hd => h d h' i cl cf (by omega)
theorem nt_unK {k : WC} {b : Int → Int} {n : Int} (hT : TpOK b n) : ∀ K : Nat, K ≤ 6 → NtE k mdX5_readsUnit b n (6 - K) (20 * K + 13) (unK b n K) ∧ NtB k mdX5_readsCondition b n (6 - K) 0 (20 * K + 19) (fun i => coG b n (unK b n K) (unK b n K i)) ∧ NtB k mdX5_readsCondition b n (6 - K) 1 (20 * K + 19) (fun i => coG b n (unK b n K) (cmG b n (smK b n K) i))
  | K, hK => by
    have hs := nt_smK (k := k) hT K hK
    have hm := nt_cmp hT (smK_b b n K) hs
    have hu : NtE k mdX5_readsUnit b n (6 - K) (20 * K + 13) (unK b n K) := by
      rw [unK_eq]
      refine nt_unit (c := 20 * K + 10) hT (by omega) (by omega) (smK_b b n K) (hs.up (by omega)) (hm.up (by omega)) (fun h => ?_) (fun u h => ?_)
      · cases K with
        | zero => rfl
        | succ K => cases h
      · cases K with
        | zero => cases h
        | succ K =>
          cases h
          have e : (6 : Int) - ((K + 1 : Nat) : Int) + 1 = 6 - (K : Int) := by omega
          obtain ⟨a1, a2, -⟩ := nt_unK (k := k) hT K (by omega)
          exact ⟨by omega, unK_b b n K, by rw [e]; exact a1.up (by omega), by rw [e]; exact a2.up (by omega)⟩
    have t0 := nt_truth hT (unK_b b n K) (unK_b b n K) hu (Or.inl ⟨rfl, hu⟩)
    have t1 := nt_truth hT (unK_b b n K) (cmG_b (smK_b b n K)) hu (Or.inr ⟨rfl, hm.up (by omega)⟩)
    exact ⟨hu, nt_cond hT (unK_b b n K) (unK_b b n K) t0 t0, nt_cond hT (unK_b b n K) (cmG_b (smK_b b n K)) t0 t1⟩
