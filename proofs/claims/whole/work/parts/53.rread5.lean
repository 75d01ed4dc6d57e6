/-! ===== clauses, the whole rule ===== -/
def NtU (k : WC) (y : MD) (b : Int → Int) (n : Int) (c : Nat) (Q : Int → RP) : Prop := ∀ (d : Nat) (h : AH) (i cl : Int) (cf : Int → Int), c ≤ d → RrO h i (-1) cl cf → TpA h b n → 0 ≤ i → i ≤ n → 0 ≤ cl → cl ≤ i → Ev k d y h [vR (9, 0)] 0 0 (pe fun v h' => RrP (Q i) n cl cf h h' v)
def giP (b : Int → Int) (n j : Int) : RP := rpT (neS b n 63 j) fun j' _ => rpT (smK b n 6 j') fun j2 u => (-1, j2, -16 :: (u ++ [-17]))
def giU (b : Int → Int) (n j : Int) : List Int := (smK b n 6 (neS b n 63 j).2.1).2.2
theorem giP_no {b : Int → Int} {n j : Int} (q : (neS b n 63 j).1 ≠ -1) : giP b n j = rpF (neS b n 63 j).1 := rpT_no q
theorem giP_no2 {b : Int → Int} {n j : Int} (q : (neS b n 63 j).1 = -1) (q2 : (smK b n 6 (neS b n 63 j).2.1).1 ≠ -1) : giP b n j = rpF (smK b n 6 (neS b n 63 j).2.1).1 := by unfold giP; rw [rpT_ok q, rpT_no q2]
theorem giP_ok {b : Int → Int} {n j : Int} (q : (neS b n 63 j).1 = -1) (q2 : (smK b n 6 (neS b n 63 j).2.1).1 = -1) : giP b n j = (-1, (smK b n 6 (neS b n 63 j).2.1).2.1, -16 :: (giU b n j ++ [-17])) := by unfold giP; rw [rpT_ok q, rpT_ok q2]; rfl
theorem giG_ok {b : Int → Int} {n j : Int} {t : List Int} (q : (giP b n j).1 = -1) : giG b n t j = (-1, (giP b n j).2.1, t, giU b n j) ∧ (giP b n j).2.2 = -16 :: (giU b n j ++ [-17]) := by
  by_cases q1 : (neS b n 63 j).1 = -1
  · by_cases q2 : (smK b n 6 (neS b n 63 j).2.1).1 = -1
    · rw [giP_ok q1 q2]
      refine ⟨?_, rfl⟩
      unfold giG
      rw [rcT_ok q1, rcT_ok q2]
      rfl
    · rw [giP_no2 q1 q2] at q; exact absurd q q2
  · rw [giP_no q1] at q; exact absurd q q1
theorem giG_no {b : Int → Int} {n j : Int} {t : List Int} (q : (giP b n j).1 ≠ -1) : giG b n t j = rcF (giP b n j).1 := by
  by_cases q1 : (neS b n 63 j).1 = -1
  · by_cases q2 : (smK b n 6 (neS b n 63 j).2.1).1 = -1
    · rw [giP_ok q1 q2] at q; exact absurd rfl q
    · rw [giP_no2 q1 q2]
      unfold giG
      rw [rcT_ok q1, rcT_no q2]
      rfl
  · rw [giP_no q1]
    unfold giG
    rw [rcT_no q1]
    rfl
theorem giP_b {b : Int → Int} {n j : Int} (h0 : 0 ≤ j) (h1 : j ≤ n) : True ∧ True ∧ ((giP b n j).1 = -1 → j < (giP b n j).2.1 ∧ (giP b n j).2.1 ≤ n ∧ ((giP b n j).2.2.length : Int) ≤ (giP b n j).2.1 - j + 1) := by
  refine ⟨trivial, trivial, fun q => ?_⟩
  by_cases q1 : (neS b n 63 j).1 = -1
  · have h2 := (neS_b (b := b) (n := n) (c := 63) (i := j) (by decide) h0 h1).2.2 q1
    by_cases q2 : (smK b n 6 (neS b n 63 j).2.1).1 = -1
    · have h3 := (smK_b b n 6 (neS b n 63 j).2.1 (by omega) h2.2.1).2.2 q2
      rw [giP_ok q1 q2]
      unfold giU
      simp only [List.length_cons, List.length_append, List.length_nil]
      omega
    · rw [giP_no2 q1 q2] at q; exact absurd q q2
  · rw [giP_no q1] at q; exact absurd q q1
def clP (b : Int → Int) (n i : Int) : RP := if (clG b n i).1 = -1 then (-1, (clG b n i).2.1, ccL (clG b n i).2.2) else rpF (clG b n i).1
theorem clP_f {b : Int → Int} {n i f : Int} (e : clG b n i = rcF f) (hf : f ≠ -1) : (clP b n i).1 = f := by unfold clP; rw [e, if_neg (show ¬ (rcF f).1 = -1 from hf)]; rfl
theorem clP_ok {b : Int → Int} {n i j : Int} {t u : List Int} (e : clG b n i = (-1, j, t, u)) : clP b n i = (-1, j, ccL (t, u)) := by unfold clP; rw [e, if_pos rfl]
theorem clP_b (b : Int → Int) (n : Int) : GdP n (clP b n) := fun i h0 h1 => by
  have h := clG_b (b := b) h0 h1
  unfold clP
  split
  · rename_i q
    exact ⟨by simp, by show (-1 : Int) ≤ n; omega, fun _ => h.2.2 q⟩
  · rename_i q
    have h1 := h.1
    exact RpB.f (by omega) h.2.1
/-- a condition that was read is no empty one -/
def NeP (n : Int) (P : Int → RP) : Prop := ∀ i, 0 ≤ i → i ≤ n → (P i).1 = -1 → (P i).2.2 ≠ []
theorem cmG_ne (b : Int → Int) (n : Int) (S : Int → RP) {i : Int} (h0 : 0 ≤ i) (h : (cmG b n S i).1 = -1) : (cmG b n S i).2.2 ≠ [] := by
  have s1 := (skS_b b n i).1
  unfold cmG at h ⊢
  split
  · rename_i q
    rw [if_pos q] at h
    by_cases q2 : (S (skS b n i + 1)).1 = -1
    · rw [rpT_ok q2]; simp
    · rw [rpT_no q2] at h; exact absurd h q2
  · rename_i q
    rw [if_neg q] at h
    have h : skS b n i = -1 := h
    omega
theorem lpT_ne {b : Int → Int} {n : Int} {P : Int → RP} {c o : Int} : ∀ (m : Nat) (r : RP), (r.1 = -1 → r.2.2 ≠ []) → (lpT b n P c o m r).1 = -1 → (lpT b n P c o m r).2.2 ≠ []
  | 0, r, h, q => h q
  | m + 1, r, h, q => by
    by_cases q1 : r.1 = -1
    · by_cases q2 : hrS b n (skS b n r.2.1) = c
      · rw [lpT_go q1 q2] at q ⊢
        refine lpT_ne m _ (fun q3 => ?_) q
        by_cases q4 : (P (skS b n r.2.1 + 1)).1 = -1
        · rw [rpT_ok q4]; simp
        · rw [rpT_no q4] at q3; exact absurd q3 q4
      · rw [lpT_end q1 q2 _ (by omega)]
        exact h q1
    · rw [lpT_bad q1] at q; exact absurd q q1
theorem coG_ne {b : Int → Int} {n : Int} {U : Int → RP} {r : RP} (h : r.1 = -1 → r.2.2 ≠ []) (q : (coG b n U r).1 = -1) : (coG b n U r).2.2 ≠ [] := lpT_ne _ _ (fun q2 => lpT_ne _ _ h q2) q
theorem brS_ne {b : Int → Int} {n c : Int} {a : RP} (h : a.1 = -1 → a.2.2 ≠ []) (q : (brS b n c a).1 = -1) : (brS b n c a).2.2 ≠ [] := by
  by_cases q1 : a.1 = -1
  · by_cases q2 : (neS b n c a.2.1).1 = -1
    · rw [brS_ok q1 q2]; exact h q1
    · rw [brS_no2 q1 q2] at q; exact absurd q q2
  · rw [brS_no q1] at q; exact absurd q q1
theorem unG_ne {b : Int → Int} {n : Int} {U : Option (Int → RP)} {S : Int → RP} (hU : ∀ u, U = some u → NeP n u) (hS : GdP n S) : NeP n (unG b n U S) := fun i h0 h1 h => by
  obtain ⟨s1, s2, -⟩ := skS_b b n i
  have s2 := s2 h1
  by_cases q : hrS b n (skS b n i) = 33
  · have l1 : skS b n i < n := hrS_lt (b := b) (by omega) (by omega)
    cases U with
    | none => rw [unG_33n q] at h; have h : skS b n i = -1 := h; omega
    | some u =>
      rw [unG_33 q] at h ⊢
      by_cases q2 : (u (skS b n i + 1)).1 = -1
      · rw [rpT_ok q2]; simp
      · rw [rpT_no q2] at h; exact absurd h q2
  · by_cases q1 : hrS b n (skS b n i) = 40
    · have l1 : skS b n i < n := hrS_lt (b := b) (by omega) (by omega)
      cases U with
      | none => rw [unG_40n q1] at h; have h : skS b n i = -1 := h; omega
      | some u =>
        rw [unG_40 q1] at h ⊢
        exact brS_ne (fun z => coG_ne (hU u rfl _ (by omega) (by omega)) z) h
    · rw [unG_s q q1] at h ⊢
      by_cases q2 : (S (skS b n i)).1 = -1
      · rw [rpT_ok q2] at h ⊢
        have h2 := (hS (skS b n i) (by omega) s2).2.2 q2
        by_cases q3 : (cmG b n S (S (skS b n i)).2.1).1 = -1
        · rw [rpT_ok q3]
          have := cmG_ne b n S (by omega) q3
          simp [this]
        · rw [rpT_no q3] at h; exact absurd h q3
      · rw [rpT_no q2] at h; exact absurd h q2
theorem unK_ne (b : Int → Int) (n : Int) : ∀ K : Nat, NeP n (unK b n K)
  | 0 => unG_ne (fun u h => by cases h) (smK_b b n 0)
  | K + 1 => unG_ne (fun u h => by cases h; exact unK_ne b n K) (smK_b b n (K + 1))
theorem ccL_t {t u : List Int} (h : t ≠ []) : ccL (t, u) = t ++ (-16 :: (u ++ [-17])) := by unfold ccL; rw [if_neg h]
theorem ccL_n (u : List Int) : ccL ([], u) = u ++ [-17] := by unfold ccL; rw [if_pos rfl]
def flC (cs : List (List Int × List Int)) : List Int := cs.flatMap ccL
theorem flC_sn (cs : List (List Int × List Int)) (c : List Int × List Int) : flC (cs ++ [c]) = flC cs ++ ccL c := by unfold flC; simp
def fl2 (r : RU2) : RP := (r.1, r.2.1, flC r.2.2)
def cl2 (b : Int → Int) (n j : Int) (cs : List (List Int × List Int)) : RU2 := if (clG b n j).1 = -1 then (-1, (clG b n j).2.1, cs ++ [(clG b n j).2.2]) else ((clG b n j).1, 0, [])
theorem cl2_ok {b : Int → Int} {n j : Int} {cs : List (List Int × List Int)} (q : (clP b n j).1 = -1) : (cl2 b n j cs).1 = -1 ∧ fl2 (cl2 b n j cs) = (-1, (clP b n j).2.1, flC cs ++ (clP b n j).2.2) := by
  unfold clP at q ⊢
  unfold cl2
  by_cases q1 : (clG b n j).1 = -1
  · rw [if_pos q1, if_pos q1]
    exact ⟨rfl, by unfold fl2; rw [flC_sn]⟩
  · rw [if_neg q1] at q; exact absurd q q1
theorem cl2_no {b : Int → Int} {n j : Int} {cs : List (List Int × List Int)} (q : (clP b n j).1 ≠ -1) : (fl2 (cl2 b n j cs)).1 = (clP b n j).1 := by
  unfold clP at q ⊢
  unfold cl2
  by_cases q1 : (clG b n j).1 = -1
  · rw [if_pos q1] at q; exact absurd rfl q
  · rw [if_neg q1, if_neg q1]; rfl
theorem lpC_bad {b : Int → Int} {n : Int} {r : RU2} (q : r.1 ≠ -1) : ∀ m : Nat, lpC b n m r = r
  | 0 => rfl
  | m + 1 => by simp only [lpC]; rw [if_neg q]
theorem lpC_end {b : Int → Int} {n : Int} {r : RU2} (q : r.1 = -1) (q2 : ¬ hrS b n (skS b n r.2.1) = 59) : ∀ m : Nat, 0 < m → lpC b n m r = (-1, skS b n r.2.1, r.2.2)
  | 0, h => absurd h (by omega)
  | m + 1, _ => by simp only [lpC]; rw [if_pos q, if_neg q2]
theorem lpC_go {b : Int → Int} {n : Int} {r : RU2} {m : Nat} (q : r.1 = -1) (q2 : hrS b n (skS b n r.2.1) = 59) : lpC b n (m + 1) r = lpC b n m (cl2 b n (skS b n r.2.1 + 1) r.2.2) := by
  simp only [lpC]
  rw [if_pos q, if_pos q2]
  rfl
set_option maxRecDepth 100000 in
set_option maxHeartbeats 4000000 in
theorem nt_given {k : WC} {b : Int → Int} {n : Int} {c : Nat} (hT : TpOK b n) (hS : NtE k mdX5_readsSum b n 0 c (smK b n 6)) : NtU k mdX5_readsGiven b n (c + 3) (giP b n) := by
  intro d h i cl cf hd zO zT hi0 hi1 hc0 hc1
  obtain ⟨hn0, hn1, hb⟩ := id hT
  have zG0 := RrG.st zO
  have zl0 : (([] : List Int).length : Int) = 0 := rfl
  refine Ev.mk (by decide +kernel) [_] rfl (Nat.le_of_ble_eq_true rfl) (fun w hc he => ?_)
  refine j_aload_n hc dX5_readsGiven_0 rfl ?_
  refine j_bipush hc dX5_readsGiven_1 (by decide) ?_
  refine j_callU (d' := d - 1) hc dX5_readsGiven_3 uX5_41_c4 zG0.1.1 (ev_X3_needs_c4 (b := b) (n := n) (i := i) (cc := 63) (by omega) zG0.1.1 (TpA.rr zG0.2 zT) hT (by omega) (by omega) (by omega) (by omega)) rfl (by omega) (by omega) (by omega) rfl rfl (Nat.le_of_ble_eq_true rfl) (retE fun zv3 zq3 zp3 => ?_)
  have zp171 := needs_rr zG0.1 (by decide) (by omega) (by omega) (by omega) (by omega) zp3
  have zvzp171 := RrP.val zp171
  subst zvzp171
  refine j_if_eq (b := 0) (tgt := 39) hc dX5_readsGiven_6 (by decide) (by split <;> exact ⟨by omega, by omega⟩) (fun zc1 => ?_) (fun zc1 => ?_)
  · have zu172 : ¬ (neS b n 63 i).1 = -1 := one_neg zc1
    have zx173 := RrG.bad zG0 zp171
    refine j_iconst hc dX5_readsGiven_39 ?_
    exact j_zret hc he dX5_readsGiven_40 rfl (by omega) (by omega) (Or.inl rfl) ⟨_, rfl, RrB.fin zx173 (by rw [giP_no zu172]; rfl) zu172⟩
  · have zu175 : (neS b n 63 i).1 = -1 := one_pos zc1
    have zb176 := (neS_b (b := b) (n := n) (c := 63) (i := i) (by decide) (by omega) (by omega)).2.2 zu175
    have zg174 := RrG.seq zG0 zp171 zu175
    rw [neS_t, List.append_nil] at zg174
    refine j_aload_n hc dX5_readsGiven_9 rfl ?_
    refine j_bipush hc dX5_readsGiven_10 (by decide) ?_
    refine j_callV (d' := d - 1) hc dX5_readsGiven_12 vX5_65 zg174.1.1 (ev_X5_writes (n := n) (x := (-16)) (by omega) zg174.1 (by omega) (by omega) rfl (by omega) (by omega)) rfl (by omega) (by omega) (by omega) rfl rfl (Nat.le_of_ble_eq_true rfl) (retE fun zv12 zq12 zp12 => ?_)
    obtain ⟨zvzg177, zg177⟩ := RrG.wr zg174 zp12
    subst zvzg177
    have zlzg177 := lap1 [] ((-16))
    refine j_if_eq (b := 0) (tgt := 39) hc dX5_readsGiven_15 (by decide) ⟨by omega, by omega⟩ (fun zc2 => ?_) (fun zc2 => ?_)
    · exact absurd zc2 (by decide)
    · refine j_aload_n hc dX5_readsGiven_18 rfl ?_
      refine j_iconst hc dX5_readsGiven_19 ?_
      refine j_callV (d' := d - 1) hc dX5_readsGiven_20 vX5_57 zg177.1.1 (hS (d - 1) _ (neS b n 63 i).2.1 _ _ (by omega) zg177.1 (TpA.rr zg177.2 zT) (by omega) (by omega) (by omega) (by omega)) rfl (by omega) (by omega) (by omega) rfl rfl (Nat.le_of_ble_eq_true rfl) (retE fun zv20 zq20 zp20 => ?_)
      have zp178 : RrP (smK b n 6 (neS b n 63 i).2.1) n _ _ _ _ _ := zp20
      have zvzp178 := RrP.val zp178
      subst zvzp178
      refine j_if_eq (b := 0) (tgt := 39) hc dX5_readsGiven_23 (by decide) (by split <;> exact ⟨by omega, by omega⟩) (fun zc3 => ?_) (fun zc3 => ?_)
      · have zu179 : ¬ (smK b n 6 (neS b n 63 i).2.1).1 = -1 := one_neg zc3
        have zx180 := RrG.bad zg177 zp178
        refine j_iconst hc dX5_readsGiven_39 ?_
        exact j_zret hc he dX5_readsGiven_40 rfl (by omega) (by omega) (Or.inl rfl) ⟨_, rfl, RrB.fin zx180 (by rw [giP_no2 zu175 zu179]; rfl) zu179⟩
      · have zu181 : (smK b n 6 (neS b n 63 i).2.1).1 = -1 := one_pos zc3
        have zg182 := RrG.seq zg177 zp178 zu181
        have zb183 := (smK_b b n 6 (neS b n 63 i).2.1 (by omega) (by omega)).2.2 zu181
        have zlzg182 := lap ([] ++ [(-16)]) (smK b n 6 (neS b n 63 i).2.1).2.2
        refine j_aload_n hc dX5_readsGiven_26 rfl ?_
        refine j_bipush hc dX5_readsGiven_27 (by decide) ?_
        refine j_callV (d' := d - 1) hc dX5_readsGiven_29 vX5_65 zg182.1.1 (ev_X5_writes (n := n) (x := (-17)) (by omega) zg182.1 (by omega) (by omega) rfl (by omega) (by omega)) rfl (by omega) (by omega) (by omega) rfl rfl (Nat.le_of_ble_eq_true rfl) (retE fun zv29 zq29 zp29 => ?_)
        obtain ⟨zvzg184, zg184⟩ := RrG.wr zg182 zp29
        subst zvzg184
        have zlzg184 := lap1 (([] ++ [(-16)]) ++ (smK b n 6 (neS b n 63 i).2.1).2.2) ((-17))
        refine j_if_eq (b := 0) (tgt := 39) hc dX5_readsGiven_32 (by decide) ⟨by omega, by omega⟩ (fun zc4 => ?_) (fun zc4 => ?_)
        · exact absurd zc4 (by decide)
        · refine j_iconst hc dX5_readsGiven_35 ?_
          refine j_goto (tgt := 40) hc dX5_readsGiven_36 (by decide) ?_
          exact j_zret hc he dX5_readsGiven_40 rfl (by omega) (by omega) (Or.inr rfl) ⟨_, rfl, RrG.fin zg184 (by rw [giP_ok zu175 zu181]; unfold giU; simp only [List.nil_append, List.cons_append, List.append_assoc]) (by omega) (by omega) (by omega) (by omega)⟩
set_option maxRecDepth 100000 in
set_option maxHeartbeats 4000000 in
theorem nt_clause {k : WC} {b : Int → Int} {n : Int} {c : Nat} (hT : TpOK b n) (hS : NtE k mdX5_readsSum b n 0 c (smK b n 6)) (hC0 : NtB k mdX5_readsCondition b n 0 0 c (fun i => coG b n (unK b n 6) (unK b n 6 i))) (hC1 : NtB k mdX5_readsCondition b n 0 1 c (fun i => coG b n (unK b n 6) (cmG b n (smK b n 6) i))) (hGi : NtU k mdX5_readsGiven b n c (giP b n)) : NtU k mdX5_readsClause b n (c + 4) (clP b n) := by
  intro d h i cl cf hd zO zT hi0 hi1 hc0 hc1
  obtain ⟨hn0, hn1, hb⟩ := id hT
  have zG0 := RrG.st zO
  have zl0 : (([] : List Int).length : Int) = 0 := rfl
  refine Ev.mk (by decide +kernel) [_] rfl (Nat.le_of_ble_eq_true rfl) (fun w hc he => ?_)
  refine j_aload_n hc dX5_readsClause_0 rfl ?_
  refine j_bipush hc dX5_readsClause_1 (by decide) ?_
  refine j_callU (d' := d - 1) hc dX5_readsClause_3 uX5_41_c4 zG0.1.1 (ev_X3_needs_c4 (b := b) (n := n) (i := i) (cc := 107) (by omega) zG0.1.1 (TpA.rr zG0.2 zT) hT (by omega) (by omega) (by omega) (by omega)) rfl (by omega) (by omega) (by omega) rfl rfl (Nat.le_of_ble_eq_true rfl) (retE fun zv3 zq3 zp3 => ?_)
  have zp185 := needs_rr zG0.1 (by decide) (by omega) (by omega) (by omega) (by omega) zp3
  have zvzp185 := RrP.val zp185
  subst zvzp185
  refine j_if_eq (b := 0) (tgt := 18) hc dX5_readsClause_6 (by decide) (by split <;> exact ⟨by omega, by omega⟩) (fun zc1 => ?_) (fun zc1 => ?_)
  · have zu186 : ¬ (neS b n 107 i).1 = -1 := one_neg zc1
    have zx187 := RrG.bad zG0 zp185
    refine j_iconst hc dX5_readsClause_18 ?_
    exact j_zret hc he dX5_readsClause_19 rfl (by omega) (by omega) (Or.inl rfl) ⟨_, rfl, RrB.fin zx187 (by exact clP_f (by unfold clG; rw [rcT_no zu186]) zu186) zu186⟩
  · have zu189 : (neS b n 107 i).1 = -1 := one_pos zc1
    have zb190 := (neS_b (b := b) (n := n) (c := 107) (i := i) (by decide) (by omega) (by omega)).2.2 zu189
    have zg188 := RrG.seq zG0 zp185 zu189
    rw [neS_t, List.append_nil] at zg188
    refine j_aload_n hc dX5_readsClause_9 rfl ?_
    refine j_bipush hc dX5_readsClause_10 (by decide) ?_
    refine j_callU (d' := d - 1) hc dX5_readsClause_12 uX5_41_c4 zg188.1.1 (ev_X3_needs_c4 (b := b) (n := n) (i := (neS b n 107 i).2.1) (cc := 58) (by omega) zg188.1.1 (TpA.rr zg188.2 zT) hT (by omega) (by omega) (by omega) (by omega)) rfl (by omega) (by omega) (by omega) rfl rfl (Nat.le_of_ble_eq_true rfl) (retE fun zv12 zq12 zp12 => ?_)
    have zp191 := needs_rr zg188.1 (by decide) (by omega) (by omega) (by omega) (by omega) zp12
    have zvzp191 := RrP.val zp191
    subst zvzp191
    refine j_if_ne (b := 0) (tgt := 20) hc dX5_readsClause_15 (by decide) (by split <;> exact ⟨by omega, by omega⟩) (fun zc2 => ?_) (fun zc2 => ?_)
    · have zu193 : (neS b n 58 (neS b n 107 i).2.1).1 = -1 := one_pos zc2
      have zb194 := (neS_b (b := b) (n := n) (c := 58) (i := (neS b n 107 i).2.1) (by decide) (by omega) (by omega)).2.2 zu193
      have zg192 := RrG.seq zg188 zp191 zu193
      rw [neS_t, List.append_nil] at zg192
      refine j_aload_n hc dX5_readsClause_20 rfl ?_
      refine j_callU (d' := d - 1) hc dX5_readsClause_21 uX5_44_c4 zg192.1.1 (ev_X3_skipBlanks_c4 (b := b) (n := n) (by omega) zg192.1.1 (TpA.rr zg192.2 zT) hT (by omega) (by omega)) rfl (by omega) (by omega) (by omega) rfl rfl (Nat.le_of_ble_eq_true rfl) (retN fun zq21 zp21 => ?_)
      have zg195 := RrG.q9 zg192 zp21.1 zp21.2
      obtain ⟨zs1961, zs1962, zs1963⟩ := skS_b b n (neS b n 58 (neS b n 107 i).2.1).2.1
      have zs1962 := zs1962 (by omega)
      have zs196h := hrS_b hb (skS b n (neS b n 58 (neS b n 107 i).2.1).2.1)
      refine j_aload_n hc dX5_readsClause_24 rfl ?_
      refine j_callU (d' := d - 1) hc dX5_readsClause_25 uX5_47_c4 zg195.1.1 (ev_X3_here_c4 (b := b) (n := n) (by omega) zg195.1.1 (TpA.rr zg195.2 zT) hT (by omega) (by omega)) rfl (by omega) (by omega) (by omega) rfl rfl (Nat.le_of_ble_eq_true rfl) (ret1 ?_)
      refine j_bipush hc dX5_readsClause_28 (by decide) ?_
      refine j_icmp_eq (tgt := 42) hc dX5_readsClause_30 (by decide) ⟨by omega, by omega⟩ ⟨by omega, by omega⟩ (fun zc3 => ?_) (fun zc3 => ?_)
      · refine j_aload_n hc dX5_readsClause_42 rfl ?_
        refine j_iconst hc dX5_readsClause_43 ?_
        refine j_iconst hc dX5_readsClause_44 ?_
        refine j_callV (d' := d - 1) hc dX5_readsClause_45 vX5_50 zg195.1.1 (hC0 (d - 1) _ (skS b n (neS b n 58 (neS b n 107 i).2.1).2.1) _ _ (by omega) zg195.1 (TpA.rr zg195.2 zT) (by omega) (by omega) (by omega) (by omega)) rfl (by omega) (by omega) (by omega) rfl rfl (Nat.le_of_ble_eq_true rfl) (retE fun zv45 zq45 zp45 => ?_)
        have zp197 : RrP (coG b n (unK b n 6) (unK b n 6 (skS b n (neS b n 58 (neS b n 107 i).2.1).2.1))) n _ _ _ _ _ := zp45
        have zvzp197 := RrP.val zp197
        subst zvzp197
        refine j_if_eq (b := 0) (tgt := 62) hc dX5_readsClause_48 (by decide) (by split <;> exact ⟨by omega, by omega⟩) (fun zc4 => ?_) (fun zc4 => ?_)
        · have zu198 : ¬ (coG b n (unK b n 6) (unK b n 6 (skS b n (neS b n 58 (neS b n 107 i).2.1).2.1))).1 = -1 := one_neg zc4
          have zx199 := RrG.bad zg195 zp197
          refine j_iconst hc dX5_readsClause_62 ?_
          exact j_zret hc he dX5_readsClause_63 rfl (by omega) (by omega) (Or.inl rfl) ⟨_, rfl, RrB.fin zx199 (by exact clP_f (by unfold clG; rw [rcT_ok zu189, rcT_ok zu193]; unfold clB; rw [if_pos (by omega), rcT_no zu198]) zu198) zu198⟩
        · have zu200 : (coG b n (unK b n 6) (unK b n 6 (skS b n (neS b n 58 (neS b n 107 i).2.1).2.1))).1 = -1 := one_pos zc4
          have zg201 := RrG.seq zg195 zp197 zu200
          have zb202 := (coG_b (unK_b b n 6) (by omega) (unK_b b n 6 (skS b n (neS b n 58 (neS b n 107 i).2.1).2.1) (by omega) (by omega))).2.2 zu200
          have zlzg201 := lap [] (coG b n (unK b n 6) (unK b n 6 (skS b n (neS b n 58 (neS b n 107 i).2.1).2.1))).2.2
          refine j_aload_n hc dX5_readsClause_51 rfl ?_
          refine j_callV (d' := d - 1) hc dX5_readsClause_52 vX5_54 zg201.1.1 (hGi (d - 1) _ (coG b n (unK b n 6) (unK b n 6 (skS b n (neS b n 58 (neS b n 107 i).2.1).2.1))).2.1 _ _ (by omega) zg201.1 (TpA.rr zg201.2 zT) (by omega) (by omega) (by omega) (by omega)) rfl (by omega) (by omega) (by omega) rfl rfl (Nat.le_of_ble_eq_true rfl) (retE fun zv52 zq52 zp52 => ?_)
          have zp203 : RrP (giP b n (coG b n (unK b n 6) (unK b n 6 (skS b n (neS b n 58 (neS b n 107 i).2.1).2.1))).2.1) n _ _ _ _ _ := zp52
          have zvzp203 := RrP.val zp203
          subst zvzp203
          refine j_if_eq (b := 0) (tgt := 62) hc dX5_readsClause_55 (by decide) (by split <;> exact ⟨by omega, by omega⟩) (fun zc5 => ?_) (fun zc5 => ?_)
          · have zu204 : ¬ (giP b n (coG b n (unK b n 6) (unK b n 6 (skS b n (neS b n 58 (neS b n 107 i).2.1).2.1))).2.1).1 = -1 := one_neg zc5
            have zx205 := RrG.bad zg201 zp203
            refine j_iconst hc dX5_readsClause_62 ?_
            exact j_zret hc he dX5_readsClause_63 rfl (by omega) (by omega) (Or.inl rfl) ⟨_, rfl, RrB.fin zx205 (by exact clP_f (by unfold clG; rw [rcT_ok zu189, rcT_ok zu193]; unfold clB; rw [if_pos (by omega), rcT_ok zu200, giG_no zu204]) zu204) zu204⟩
          · have zu206 : (giP b n (coG b n (unK b n 6) (unK b n 6 (skS b n (neS b n 58 (neS b n 107 i).2.1).2.1))).2.1).1 = -1 := one_pos zc5
            have zg207 := RrG.seq zg201 zp203 zu206
            have zb208 := (giP_b (by omega) (by omega)).2.2 zu206
            have zlzg207 := lap ([] ++ (coG b n (unK b n 6) (unK b n 6 (skS b n (neS b n 58 (neS b n 107 i).2.1).2.1))).2.2) (giP b n (coG b n (unK b n 6) (unK b n 6 (skS b n (neS b n 58 (neS b n 107 i).2.1).2.1))).2.1).2.2
            refine j_iconst hc dX5_readsClause_58 ?_
            refine j_goto (tgt := 63) hc dX5_readsClause_59 (by decide) ?_
            exact j_zret hc he dX5_readsClause_63 rfl (by omega) (by omega) (Or.inr rfl) ⟨_, rfl, RrG.fin zg207 (by rw [clP_ok (by unfold clG; rw [rcT_ok zu189, rcT_ok zu193]; unfold clB; rw [if_pos (by omega), rcT_ok zu200, (giG_ok zu206).1]), (giG_ok (t := []) zu206).2, ccL_t (coG_ne (unK_ne b n 6 _ (by omega) (by omega)) zu200)]; simp only [List.nil_append]) (by omega) (by omega) (by omega) (by omega)⟩
      · refine j_aload_n hc dX5_readsClause_33 rfl ?_
        refine j_callU (d' := d - 1) hc dX5_readsClause_34 uX5_47_c4 zg195.1.1 (ev_X3_here_c4 (b := b) (n := n) (by omega) zg195.1.1 (TpA.rr zg195.2 zT) hT (by omega) (by omega)) rfl (by omega) (by omega) (by omega) rfl rfl (Nat.le_of_ble_eq_true rfl) (ret1 ?_)
        refine j_bipush hc dX5_readsClause_37 (by decide) ?_
        refine j_icmp_ne (tgt := 64) hc dX5_readsClause_39 (by decide) ⟨by omega, by omega⟩ ⟨by omega, by omega⟩ (fun zc6 => ?_) (fun zc6 => ?_)
        · refine j_aload_n hc dX5_readsClause_64 rfl ?_
          refine j_iconst hc dX5_readsClause_65 ?_
          refine j_callV (d' := d - 1) hc dX5_readsClause_66 vX5_57 zg195.1.1 (hS (d - 1) _ (skS b n (neS b n 58 (neS b n 107 i).2.1).2.1) _ _ (by omega) zg195.1 (TpA.rr zg195.2 zT) (by omega) (by omega) (by omega) (by omega)) rfl (by omega) (by omega) (by omega) rfl rfl (Nat.le_of_ble_eq_true rfl) (retE fun zv66 zq66 zp66 => ?_)
          have zp209 : RrP (smK b n 6 (skS b n (neS b n 58 (neS b n 107 i).2.1).2.1)) n _ _ _ _ _ := zp66
          have zvzp209 := RrP.val zp209
          subst zvzp209
          refine j_if_ne (b := 0) (tgt := 74) hc dX5_readsClause_69 (by decide) (by split <;> exact ⟨by omega, by omega⟩) (fun zc7 => ?_) (fun zc7 => ?_)
          · have zu210 : (smK b n 6 (skS b n (neS b n 58 (neS b n 107 i).2.1).2.1)).1 = -1 := one_pos zc7
            have zg211 := RrG.seq zg195 zp209 zu210
            have zb212 := (smK_b b n 6 (skS b n (neS b n 58 (neS b n 107 i).2.1).2.1) (by omega) (by omega)).2.2 zu210
            have zlzg211 := lap [] (smK b n 6 (skS b n (neS b n 58 (neS b n 107 i).2.1).2.1)).2.2
            refine j_aload_n hc dX5_readsClause_74 rfl ?_
            refine j_callV (d' := d - 1) hc dX5_readsClause_75 vX5_60 zg211.1.1 (ev_X5_isAtComparison (b := b) (n := n) (by omega) zg211.1 (TpA.rr zg211.2 zT) hT (by omega) (by omega) (by omega) (by omega)) rfl (by omega) (by omega) (by omega) rfl rfl (Nat.le_of_ble_eq_true rfl) (retE fun zv75 zq75 zp75 => ?_)
            obtain ⟨zvzg213, zozg213, zezg213⟩ := zp75
            subst zvzg213
            have zg213 : RrG (skS b n (smK b n 6 (skS b n (neS b n 58 (neS b n 107 i).2.1).2.1)).2.1) ([] ++ (smK b n 6 (skS b n (neS b n 58 (neS b n 107 i).2.1).2.1)).2.2) cl cf h _ := ⟨zozg213, zg211.2.tr zezg213⟩
            obtain ⟨zs2141, zs2142, zs2143⟩ := skS_b b n (smK b n 6 (skS b n (neS b n 58 (neS b n 107 i).2.1).2.1)).2.1
            have zs2142 := zs2142 (by omega)
            have zs214h := hrS_b hb (skS b n (smK b n 6 (skS b n (neS b n 58 (neS b n 107 i).2.1).2.1)).2.1)
            refine j_if_eq (b := 0) (tgt := 103) hc dX5_readsClause_78 (by decide) (by split <;> exact ⟨by omega, by omega⟩) (fun zc8 => ?_) (fun zc8 => ?_)
            · have zcm : ¬ isCm (hrS b n (skS b n (smK b n 6 (skS b n (neS b n 58 (neS b n 107 i).2.1).2.1)).2.1)) := one_neg zc8
              refine j_aload_n hc dX5_readsClause_103 rfl ?_
              refine j_bipush hc dX5_readsClause_104 (by decide) ?_
              refine j_callV (d' := d - 1) hc dX5_readsClause_106 vX5_65 zg213.1.1 (ev_X5_writes (n := n) (x := (-17)) (by omega) zg213.1 (by omega) (by omega) rfl (by omega) (by omega)) rfl (by omega) (by omega) (by omega) rfl rfl (Nat.le_of_ble_eq_true rfl) (retE fun zv106 zq106 zp106 => ?_)
              obtain ⟨zvzg215, zg215⟩ := RrG.wr zg213 zp106
              subst zvzg215
              have zlzg215 := lap1 ([] ++ (smK b n 6 (skS b n (neS b n 58 (neS b n 107 i).2.1).2.1)).2.2) ((-17))
              exact j_zret hc he dX5_readsClause_109 rfl (by omega) (by omega) (Or.inr rfl) ⟨_, rfl, RrG.fin zg215 (by rw [clP_ok (by unfold clG; rw [rcT_ok zu189, rcT_ok zu193]; unfold clB; rw [if_neg (by omega), rcT_ok zu210, if_neg zcm]), ccL_n]; simp only [List.nil_append]) (by omega) (by omega) (by omega) (by omega)⟩
            · have zcm : isCm (hrS b n (skS b n (smK b n 6 (skS b n (neS b n 58 (neS b n 107 i).2.1).2.1)).2.1)) := one_pos zc8
              refine j_aload_n hc dX5_readsClause_81 rfl ?_
              refine j_iconst hc dX5_readsClause_82 ?_
              refine j_iconst hc dX5_readsClause_83 ?_
              refine j_callV (d' := d - 1) hc dX5_readsClause_84 vX5_50 zg213.1.1 (hC1 (d - 1) _ (skS b n (smK b n 6 (skS b n (neS b n 58 (neS b n 107 i).2.1).2.1)).2.1) _ _ (by omega) zg213.1 (TpA.rr zg213.2 zT) (by omega) (by omega) (by omega) (by omega)) rfl (by omega) (by omega) (by omega) rfl rfl (Nat.le_of_ble_eq_true rfl) (retE fun zv84 zq84 zp84 => ?_)
              have zp216 : RrP (coG b n (unK b n 6) (cmG b n (smK b n 6) (skS b n (smK b n 6 (skS b n (neS b n 58 (neS b n 107 i).2.1).2.1)).2.1))) n _ _ _ _ _ := zp84
              have zvzp216 := RrP.val zp216
              subst zvzp216
              refine j_if_eq (b := 0) (tgt := 101) hc dX5_readsClause_87 (by decide) (by split <;> exact ⟨by omega, by omega⟩) (fun zc9 => ?_) (fun zc9 => ?_)
              · have zu217 : ¬ (coG b n (unK b n 6) (cmG b n (smK b n 6) (skS b n (smK b n 6 (skS b n (neS b n 58 (neS b n 107 i).2.1).2.1)).2.1))).1 = -1 := one_neg zc9
                have zx218 := RrG.bad zg213 zp216
                refine j_iconst hc dX5_readsClause_101 ?_
                exact j_zret hc he dX5_readsClause_102 rfl (by omega) (by omega) (Or.inl rfl) ⟨_, rfl, RrB.fin zx218 (by exact clP_f (by unfold clG; rw [rcT_ok zu189, rcT_ok zu193]; unfold clB; rw [if_neg (by omega), rcT_ok zu210, if_pos zcm, rcT_no zu217]) zu217) zu217⟩
              · have zu219 : (coG b n (unK b n 6) (cmG b n (smK b n 6) (skS b n (smK b n 6 (skS b n (neS b n 58 (neS b n 107 i).2.1).2.1)).2.1))).1 = -1 := one_pos zc9
                have zg220 := RrG.seq zg213 zp216 zu219
                have zb221 := (coG_b (unK_b b n 6) (by omega) (cmG_b (smK_b b n 6) (skS b n (smK b n 6 (skS b n (neS b n 58 (neS b n 107 i).2.1).2.1)).2.1) (by omega) (by omega))).2.2 zu219
                have zlzg220 := lap ([] ++ (smK b n 6 (skS b n (neS b n 58 (neS b n 107 i).2.1).2.1)).2.2) (coG b n (unK b n 6) (cmG b n (smK b n 6) (skS b n (smK b n 6 (skS b n (neS b n 58 (neS b n 107 i).2.1).2.1)).2.1))).2.2
                refine j_aload_n hc dX5_readsClause_90 rfl ?_
                refine j_callV (d' := d - 1) hc dX5_readsClause_91 vX5_54 zg220.1.1 (hGi (d - 1) _ (coG b n (unK b n 6) (cmG b n (smK b n 6) (skS b n (smK b n 6 (skS b n (neS b n 58 (neS b n 107 i).2.1).2.1)).2.1))).2.1 _ _ (by omega) zg220.1 (TpA.rr zg220.2 zT) (by omega) (by omega) (by omega) (by omega)) rfl (by omega) (by omega) (by omega) rfl rfl (Nat.le_of_ble_eq_true rfl) (retE fun zv91 zq91 zp91 => ?_)
                have zp222 : RrP (giP b n (coG b n (unK b n 6) (cmG b n (smK b n 6) (skS b n (smK b n 6 (skS b n (neS b n 58 (neS b n 107 i).2.1).2.1)).2.1))).2.1) n _ _ _ _ _ := zp91
                have zvzp222 := RrP.val zp222
                subst zvzp222
                refine j_if_eq (b := 0) (tgt := 101) hc dX5_readsClause_94 (by decide) (by split <;> exact ⟨by omega, by omega⟩) (fun zc10 => ?_) (fun zc10 => ?_)
                · have zu223 : ¬ (giP b n (coG b n (unK b n 6) (cmG b n (smK b n 6) (skS b n (smK b n 6 (skS b n (neS b n 58 (neS b n 107 i).2.1).2.1)).2.1))).2.1).1 = -1 := one_neg zc10
                  have zx224 := RrG.bad zg220 zp222
                  refine j_iconst hc dX5_readsClause_101 ?_
                  exact j_zret hc he dX5_readsClause_102 rfl (by omega) (by omega) (Or.inl rfl) ⟨_, rfl, RrB.fin zx224 (by exact clP_f (by unfold clG; rw [rcT_ok zu189, rcT_ok zu193]; unfold clB; rw [if_neg (by omega), rcT_ok zu210, if_pos zcm, rcT_ok zu219, giG_no zu223]) zu223) zu223⟩
                · have zu225 : (giP b n (coG b n (unK b n 6) (cmG b n (smK b n 6) (skS b n (smK b n 6 (skS b n (neS b n 58 (neS b n 107 i).2.1).2.1)).2.1))).2.1).1 = -1 := one_pos zc10
                  have zg226 := RrG.seq zg220 zp222 zu225
                  have zb227 := (giP_b (by omega) (by omega)).2.2 zu225
                  have zlzg226 := lap (([] ++ (smK b n 6 (skS b n (neS b n 58 (neS b n 107 i).2.1).2.1)).2.2) ++ (coG b n (unK b n 6) (cmG b n (smK b n 6) (skS b n (smK b n 6 (skS b n (neS b n 58 (neS b n 107 i).2.1).2.1)).2.1))).2.2) (giP b n (coG b n (unK b n 6) (cmG b n (smK b n 6) (skS b n (smK b n 6 (skS b n (neS b n 58 (neS b n 107 i).2.1).2.1)).2.1))).2.1).2.2
                  refine j_iconst hc dX5_readsClause_97 ?_
                  refine j_goto (tgt := 102) hc dX5_readsClause_98 (by decide) ?_
                  exact j_zret hc he dX5_readsClause_102 rfl (by omega) (by omega) (Or.inr rfl) ⟨_, rfl, RrG.fin zg226 (by rw [clP_ok (by unfold clG; rw [rcT_ok zu189, rcT_ok zu193]; unfold clB; rw [if_neg (by omega), rcT_ok zu210, if_pos zcm, rcT_ok zu219, (giG_ok zu225).1]), (giG_ok (t := []) zu225).2, ccL_t (by have := coG_ne (cmG_ne b n (smK b n 6) (by omega)) zu219; simp [this])]; simp only [List.nil_append, List.append_assoc]) (by omega) (by omega) (by omega) (by omega)⟩
          · have zu228 : ¬ (smK b n 6 (skS b n (neS b n 58 (neS b n 107 i).2.1).2.1)).1 = -1 := one_neg zc7
            have zx229 := RrG.bad zg195 zp209
            refine j_iconst hc dX5_readsClause_72 ?_
            exact j_zret hc he dX5_readsClause_73 rfl (by omega) (by omega) (Or.inl rfl) ⟨_, rfl, RrB.fin zx229 (by exact clP_f (by unfold clG; rw [rcT_ok zu189, rcT_ok zu193]; unfold clB; rw [if_neg (by omega), rcT_no zu228]) zu228) zu228⟩
        · refine j_aload_n hc dX5_readsClause_42 rfl ?_
          refine j_iconst hc dX5_readsClause_43 ?_
          refine j_iconst hc dX5_readsClause_44 ?_
          refine j_callV (d' := d - 1) hc dX5_readsClause_45 vX5_50 zg195.1.1 (hC0 (d - 1) _ (skS b n (neS b n 58 (neS b n 107 i).2.1).2.1) _ _ (by omega) zg195.1 (TpA.rr zg195.2 zT) (by omega) (by omega) (by omega) (by omega)) rfl (by omega) (by omega) (by omega) rfl rfl (Nat.le_of_ble_eq_true rfl) (retE fun zv45 zq45 zp45 => ?_)
          have zp230 : RrP (coG b n (unK b n 6) (unK b n 6 (skS b n (neS b n 58 (neS b n 107 i).2.1).2.1))) n _ _ _ _ _ := zp45
          have zvzp230 := RrP.val zp230
          subst zvzp230
          refine j_if_eq (b := 0) (tgt := 62) hc dX5_readsClause_48 (by decide) (by split <;> exact ⟨by omega, by omega⟩) (fun zc11 => ?_) (fun zc11 => ?_)
          · have zu231 : ¬ (coG b n (unK b n 6) (unK b n 6 (skS b n (neS b n 58 (neS b n 107 i).2.1).2.1))).1 = -1 := one_neg zc11
            have zx232 := RrG.bad zg195 zp230
            refine j_iconst hc dX5_readsClause_62 ?_
            exact j_zret hc he dX5_readsClause_63 rfl (by omega) (by omega) (Or.inl rfl) ⟨_, rfl, RrB.fin zx232 (by exact clP_f (by unfold clG; rw [rcT_ok zu189, rcT_ok zu193]; unfold clB; rw [if_pos (by omega), rcT_no zu231]) zu231) zu231⟩
          · have zu233 : (coG b n (unK b n 6) (unK b n 6 (skS b n (neS b n 58 (neS b n 107 i).2.1).2.1))).1 = -1 := one_pos zc11
            have zg234 := RrG.seq zg195 zp230 zu233
            have zb235 := (coG_b (unK_b b n 6) (by omega) (unK_b b n 6 (skS b n (neS b n 58 (neS b n 107 i).2.1).2.1) (by omega) (by omega))).2.2 zu233
            have zlzg234 := lap [] (coG b n (unK b n 6) (unK b n 6 (skS b n (neS b n 58 (neS b n 107 i).2.1).2.1))).2.2
            refine j_aload_n hc dX5_readsClause_51 rfl ?_
            refine j_callV (d' := d - 1) hc dX5_readsClause_52 vX5_54 zg234.1.1 (hGi (d - 1) _ (coG b n (unK b n 6) (unK b n 6 (skS b n (neS b n 58 (neS b n 107 i).2.1).2.1))).2.1 _ _ (by omega) zg234.1 (TpA.rr zg234.2 zT) (by omega) (by omega) (by omega) (by omega)) rfl (by omega) (by omega) (by omega) rfl rfl (Nat.le_of_ble_eq_true rfl) (retE fun zv52 zq52 zp52 => ?_)
            have zp236 : RrP (giP b n (coG b n (unK b n 6) (unK b n 6 (skS b n (neS b n 58 (neS b n 107 i).2.1).2.1))).2.1) n _ _ _ _ _ := zp52
            have zvzp236 := RrP.val zp236
            subst zvzp236
            refine j_if_eq (b := 0) (tgt := 62) hc dX5_readsClause_55 (by decide) (by split <;> exact ⟨by omega, by omega⟩) (fun zc12 => ?_) (fun zc12 => ?_)
            · have zu237 : ¬ (giP b n (coG b n (unK b n 6) (unK b n 6 (skS b n (neS b n 58 (neS b n 107 i).2.1).2.1))).2.1).1 = -1 := one_neg zc12
              have zx238 := RrG.bad zg234 zp236
              refine j_iconst hc dX5_readsClause_62 ?_
              exact j_zret hc he dX5_readsClause_63 rfl (by omega) (by omega) (Or.inl rfl) ⟨_, rfl, RrB.fin zx238 (by exact clP_f (by unfold clG; rw [rcT_ok zu189, rcT_ok zu193]; unfold clB; rw [if_pos (by omega), rcT_ok zu233, giG_no zu237]) zu237) zu237⟩
            · have zu239 : (giP b n (coG b n (unK b n 6) (unK b n 6 (skS b n (neS b n 58 (neS b n 107 i).2.1).2.1))).2.1).1 = -1 := one_pos zc12
              have zg240 := RrG.seq zg234 zp236 zu239
              have zb241 := (giP_b (by omega) (by omega)).2.2 zu239
              have zlzg240 := lap ([] ++ (coG b n (unK b n 6) (unK b n 6 (skS b n (neS b n 58 (neS b n 107 i).2.1).2.1))).2.2) (giP b n (coG b n (unK b n 6) (unK b n 6 (skS b n (neS b n 58 (neS b n 107 i).2.1).2.1))).2.1).2.2
              refine j_iconst hc dX5_readsClause_58 ?_
              refine j_goto (tgt := 63) hc dX5_readsClause_59 (by decide) ?_
              exact j_zret hc he dX5_readsClause_63 rfl (by omega) (by omega) (Or.inr rfl) ⟨_, rfl, RrG.fin zg240 (by rw [clP_ok (by unfold clG; rw [rcT_ok zu189, rcT_ok zu193]; unfold clB; rw [if_pos (by omega), rcT_ok zu233, (giG_ok zu239).1]), (giG_ok (t := []) zu239).2, ccL_t (coG_ne (unK_ne b n 6 _ (by omega) (by omega)) zu233)]; simp only [List.nil_append]) (by omega) (by omega) (by omega) (by omega)⟩
    · have zu242 : ¬ (neS b n 58 (neS b n 107 i).2.1).1 = -1 := one_neg zc2
      have zx243 := RrG.bad zg188 zp191
      refine j_iconst hc dX5_readsClause_18 ?_
      exact j_zret hc he dX5_readsClause_19 rfl (by omega) (by omega) (Or.inl rfl) ⟨_, rfl, RrB.fin zx243 (by exact clP_f (by unfold clG; rw [rcT_ok zu189, rcT_no zu242]) zu242) zu242⟩
