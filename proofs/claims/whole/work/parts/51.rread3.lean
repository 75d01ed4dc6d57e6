/-! ===== terms, sums, comparisons, units, truths, conditions, clauses ===== -/
/-- so far right: at place j, t written -/
def RrG (j : Int) (t : List Int) (cl : Int) (cf : Int → Int) (h h' : AH) : Prop := RrO h' j (-1) (cl + t.length) (wrL cf cl t) ∧ Fr isRr h h'
/-- a fault was found -/
def RrB (f n : Int) (h h' : AH) : Prop := (∃ (i' cl' : Int) (cf' : Int → Int), RrO h' i' f cl' cf' ∧ 0 ≤ i' ∧ i' ≤ n ∧ 0 ≤ cl' ∧ cl' ≤ 482) ∧ Fr isRr h h'
theorem RrG.st {h : AH} {i cl : Int} {cf : Int → Int} (zO : RrO h i (-1) cl cf) : RrG i [] cl cf h h := ⟨by simpa [wrL] using zO, Fr.rf _ _⟩
theorem RrP.good {r : RP} {n cl : Int} {cf : Int → Int} {h h' : AH} {v : AV} (a : RrP r n cl cf h h' v) (q : r.1 = -1) : RrG r.2.1 r.2.2 cl cf h h' := by
  obtain ⟨i', cl', cf', h1, h2, h3, h4, h5, h6, h7, h8⟩ := a
  obtain ⟨e1, e2, e3⟩ := h3 q
  subst e1 e2 e3
  rw [q] at h2
  exact ⟨h2, h8⟩
theorem RrP.bad {r : RP} {n cl : Int} {cf : Int → Int} {h h' : AH} {v : AV} (a : RrP r n cl cf h h' v) : RrB r.1 n h h' := by
  obtain ⟨i', cl', cf', h1, h2, h3, h4, h5, h6, h7, h8⟩ := a
  exact ⟨⟨i', cl', cf', h2, h4, h5, h6, h7⟩, h8⟩
theorem RrG.seq {j : Int} {t : List Int} {q : RP} {n cl : Int} {cf : Int → Int} {h h1 h2 : AH} {v : AV} (g : RrG j t cl cf h h1) (a : RrP q n (cl + t.length) (wrL cf cl t) h1 h2 v) (e : q.1 = -1) : RrG q.2.1 (t ++ q.2.2) cl cf h h2 := by
  obtain ⟨b1, b2⟩ := a.good e
  refine ⟨?_, g.2.tr b2⟩
  rw [wrL_app, List.length_append, Int.natCast_add, ← Int.add_assoc]
  exact b1
theorem RrG.bad {j : Int} {t : List Int} {q : RP} {n cl : Int} {cf : Int → Int} {h h1 h2 : AH} {v : AV} (g : RrG j t cl cf h h1) (a : RrP q n (cl + t.length) (wrL cf cl t) h1 h2 v) : RrB q.1 n h h2 := by
  obtain ⟨b1, b2⟩ := a.bad
  exact ⟨b1, g.2.tr b2⟩
theorem RrG.fin {r : RP} {j : Int} {t : List Int} {n cl : Int} {cf : Int → Int} {h h' : AH} (g : RrG j t cl cf h h') (e : r = (-1, j, t)) (h0 : 0 ≤ j) (h1 : j ≤ n) (h2 : 0 ≤ cl) (h3 : cl + t.length ≤ 482) : RrP r n cl cf h h' (vI 1) :=
  RrP.done e g.1 rfl rfl h0 h1 (by omega) h3 g.2
theorem RrB.fin {r : RP} {f n cl : Int} {cf : Int → Int} {h h' : AH} (g : RrB f n h h') (e : r.1 = f) (hf : f ≠ -1) : RrP r n cl cf h h' (vI 0) := by
  obtain ⟨⟨i', cl', cf', h2, h4, h5, h6, h7⟩, h8⟩ := g
  exact RrP.fail e hf h2 h4 h5 h6 h7 h8
theorem RrG.q9 {j j' : Int} {t : List Int} {cl : Int} {cf : Int → Int} {h h1 h2 : AH} (g : RrG j t cl cf h h1) (zQ : h2 (9, 0) = some (oO 4 (vR (1, 0) :: vI j' :: vI (-1) :: [vR (10, 0), vI (cl + t.length)]))) (zF : Fr (fun z => z = (9, 0)) h1 h2) : RrG j' t cl cf h h2 := ⟨g.1.cl zQ zF, g.2.tr zF.r9⟩
theorem RrG.up9 {j j' : Int} {t : List Int} {cl : Int} {cf : Int → Int} {h h1 h2 : AH} (g : RrG j t cl cf h h1) (e : up h1 (9, 0) (oO 4 [vR (1, 0), vI j', vI (-1), vR (10, 0), vI (cl + t.length)]) = h2) : RrG j' t cl cf h h2 := by
  subst e
  exact g.q9 (up_same _ _ _) (Fr.up rfl)
theorem RrG.wr {j x n : Int} {t : List Int} {cl : Int} {cf : Int → Int} {h h1 h2 : AH} {v : AV} (g : RrG j t cl cf h h1) (a : RrP (-1, j, [x]) n (cl + t.length) (wrL cf cl t) h1 h2 v) : v = vI 1 ∧ RrG j (t ++ [x]) cl cf h h2 := by
  refine ⟨by rw [a.val, if_pos rfl], ?_⟩
  exact g.seq a rfl
/-- behind it blanks were passed, however it went -/
theorem RrP.sk {r : RP} {b : Int → Int} {n cl i' cl' : Int} {cf cf' : Int → Int} {h h1 h2 : AH} (hi : i' ≤ n) (zO : RrO h1 i' r.1 cl' cf') (zok : r.1 = -1 → i' = r.2.1 ∧ cl' = cl + r.2.2.length ∧ cf' = wrL cf cl r.2.2) (h0 : 0 ≤ i') (k0 : 0 ≤ cl') (k1 : cl' ≤ 482) (F : Fr isRr h h1)
    (zQ : h2 (9, 0) = some (oO 4 (vR (1, 0) :: vI (skS b n i') :: vI r.1 :: [vR (10, 0), vI cl']))) (zF : Fr (fun z => z = (9, 0)) h1 h2) : RrP (rpT r fun j t => (-1, skS b n j, t)) n cl cf h h2 (vI (if r.1 = -1 then 1 else 0)) := by
  obtain ⟨s1, s2, -⟩ := skS_b b n i'
  have s2 := s2 hi
  by_cases q : r.1 = -1
  · obtain ⟨e1, e2, e3⟩ := zok q
    subst e1 e2 e3
    rw [rpT_ok q, if_pos q]
    rw [q] at zO zQ
    exact RrP.done rfl (zO.cl zQ zF) rfl rfl (by omega) s2 k0 k1 (F.tr zF.r9)
  · rw [rpT_no q, if_neg q]
    exact RrP.fail (f0 := r.1) rfl q (zO.cl zQ zF) (by omega) s2 k0 k1 (F.tr zF.r9)
theorem RrB.sk {b : Int → Int} {f n i' cl' : Int} {cf' : Int → Int} {h h1 h2 : AH} (zO : RrO h1 i' f cl' cf') (h0 : 0 ≤ i') (h1' : i' ≤ n) (k0 : 0 ≤ cl') (k1 : cl' ≤ 482) (F : Fr isRr h h1) (zQ : h2 (9, 0) = some (oO 4 (vR (1, 0) :: vI (skS b n i') :: vI f :: [vR (10, 0), vI cl']))) (zF : Fr (fun z => z = (9, 0)) h1 h2) : RrB f n h h2 := by
  obtain ⟨s1, s2, -⟩ := skS_b b n i'
  have s2 := s2 h1'
  exact ⟨⟨_, _, _, zO.cl zQ zF, by omega, s2, k0, k1⟩, F.tr zF.r9⟩
theorem lpO_stop {b : Int → Int} {n : Int} {P : Int → RP} {c1 o1 c2 o2 : Int} {r : RP} (q : ¬ (r.1 = -1 ∧ (hrS b n r.2.1 = c1 ∨ hrS b n r.2.1 = c2))) : ∀ m : Nat, lpO b n P c1 o1 c2 o2 m r = r
  | 0 => rfl
  | m + 1 => by simp only [lpO]; rw [if_neg q]
theorem lpO_go {b : Int → Int} {n : Int} {P : Int → RP} {c1 o1 c2 o2 : Int} {r : RP} {m : Nat} (q : r.1 = -1 ∧ (hrS b n r.2.1 = c1 ∨ hrS b n r.2.1 = c2)) : lpO b n P c1 o1 c2 o2 (m + 1) r = lpO b n P c1 o1 c2 o2 m (rpT (P (r.2.1 + 1)) fun j t => (-1, skS b n j, r.2.2 ++ t ++ [if hrS b n r.2.1 = c1 then o1 else o2])) := by
  simp only [lpO]
  exact if_pos q
theorem lpT_bad {b : Int → Int} {n : Int} {P : Int → RP} {c o : Int} {r : RP} (q : r.1 ≠ -1) : ∀ m : Nat, lpT b n P c o m r = r
  | 0 => rfl
  | m + 1 => by simp only [lpT]; rw [if_neg q]
theorem lap (t u : List Int) : ((t ++ u).length : Int) = t.length + u.length := by simp
theorem lap1 (t : List Int) (x : Int) : ((t ++ [x]).length : Int) = t.length + 1 := by simp
set_option maxRecDepth 100000 in
set_option maxHeartbeats 4000000 in
theorem lp_X5_readsTerm {k : WC} {d : Nat} {w : MC} {h : AH} {b : Int → Int} {n dp i cl : Int} {c : Nat} {cf : Int → Int} {P : Int → RP} (hT : TpOK b n) (hg : GdP n P) (hP : NtE k mdX5_readsAtom b n dp c P) (hd : c + 1 ≤ d) (hd2 : 2 ≤ d) (zT : TpA h b n) (hi0 : 0 ≤ i) (hc0 : 0 ≤ cl) (hc1 : cl ≤ i) (hc : Cx w k d 0 0 mdX5_readsTerm) (he : Ends w 0 0 (pe fun v h' => RrP (tmG b n P i) n cl cf h h' v)) : ∀ (zm : Nat) (x : Nat) (r : RP) (v : AV) (h' : AH) (z4 : Option AV), 240 - x = zm → x ≤ 240 → RpB n i r → RrP r n cl cf h h' v → lpO b n P 42 (-8) 47 (-9) (240 - x) r = tmG b n P i → J w 0 0 12 [some (vR (9, 0)), some (vI dp), some v, some (vI x), z4] [] h' := by
  intro zm
  induction zm using Nat.strongRecOn with
  | _ zm ih =>
    intro x r v h' z4 hm hx hB hr hst
    obtain ⟨hn0, hn1, hb⟩ := id hT
    have zvr := RrP.val hr
    subst zvr
    refine j_iload_n hc dX5_readsTerm_12 rfl ?_
    refine j_sipush hc dX5_readsTerm_13 (by decide) ?_
    refine j_icmp_ge (tgt := 102) hc dX5_readsTerm_16 (by decide) ⟨by omega, by omega⟩ ⟨by omega, by omega⟩ (fun zc1 => ?_) (fun zc1 => ?_)
    · have zx9 : 240 - x = 0 := by omega
      refine j_iload_n hc dX5_readsTerm_102 rfl ?_
      exact j_zret hc he dX5_readsTerm_103 rfl (by omega) (by omega) (by split <;> first | exact Or.inr rfl | exact Or.inl rfl) ⟨_, rfl, by rw [← hst, zx9, lpO]; exact hr⟩
    · refine j_iload_n hc dX5_readsTerm_19 rfl ?_
      refine j_if_eq (b := 0) (tgt := 102) hc dX5_readsTerm_20 (by decide) (by split <;> exact ⟨by omega, by omega⟩) (fun zc2 => ?_) (fun zc2 => ?_)
      · have zu9 : ¬ r.1 = -1 := one_neg zc2
        refine j_iload_n hc dX5_readsTerm_102 rfl ?_
        exact j_zret hc he dX5_readsTerm_103 rfl (by omega) (by omega) (by split <;> first | exact Or.inr rfl | exact Or.inl rfl) ⟨_, rfl, by rw [← hst, lpO_stop (fun zq => by first | exact zu9 zq.1 | (have := zq.2; omega))]; exact hr⟩
      · have zu9 : r.1 = -1 := one_pos zc2
        have zG1 := RrP.good hr zu9
        obtain ⟨zr1, zr2, zr3⟩ := hB.2.2 zu9
        have zh1 := hrS_b hb r.2.1
        refine j_aload_n hc dX5_readsTerm_23 rfl ?_
        refine j_callU (d' := d - 1) hc dX5_readsTerm_24 uX5_47_c4 zG1.1.1 (ev_X3_here_c4 (b := b) (n := n) (by omega) zG1.1.1 (TpA.rr zG1.2 zT) hT (by omega) (by omega)) rfl (by omega) (by omega) (by omega) rfl rfl (Nat.le_of_ble_eq_true rfl) (ret1 ?_)
        refine j_bipush hc dX5_readsTerm_27 (by decide) ?_
        refine j_icmp_eq (tgt := 41) hc dX5_readsTerm_29 (by decide) ⟨by omega, by omega⟩ ⟨by omega, by omega⟩ (fun zc3 => ?_) (fun zc3 => ?_)
        · have zlt : r.2.1 < n := hrS_lt (b := b) (by omega) (by omega)
          refine j_aload_n hc dX5_readsTerm_41 rfl ?_
          refine j_callU (d' := d - 1) hc dX5_readsTerm_42 uX5_47_c4 zG1.1.1 (ev_X3_here_c4 (b := b) (n := n) (by omega) zG1.1.1 (TpA.rr zG1.2 zT) hT (by omega) (by omega)) rfl (by omega) (by omega) (by omega) rfl rfl (Nat.le_of_ble_eq_true rfl) (ret1 ?_)
          refine j_bipush hc dX5_readsTerm_45 (by decide) ?_
          refine j_icmp_ne (tgt := 55) hc dX5_readsTerm_47 (by decide) ⟨by omega, by omega⟩ ⟨by omega, by omega⟩ (fun zc4 => ?_) (fun zc4 => ?_)
          · refine j_bipush hc dX5_readsTerm_55 (by decide) ?_
            refine j_istore (L' := [_, _, _, _, _]) hc dX5_readsTerm_57 (Nat.le_of_ble_eq_true rfl) rfl ?_
            refine j_aload_n hc dX5_readsTerm_59 rfl ?_
            refine j_dup hc dX5_readsTerm_60 rfl ?_
            refine j_get hc dX5_readsTerm_61 fX5_80 zG1.1.1 rfl ?_
            refine j_iconst hc dX5_readsTerm_64 ?_
            refine j_iadd hc dX5_readsTerm_65 ?_
            refine j_put (fs' := [_, _, _, _, _]) hc dX5_readsTerm_66 pX5_80 zG1.1.1 rfl rfl ?_
            generalize ezh1 : up _ _ _ = zh1
            have zQ_zh1 := (congrFun ezh1 _).symm.trans (up_same _ _ _)
            have zQ10_zh1 := (congrFun ezh1 _).symm.trans ((up_ne (by simp)).trans zG1.1.2)
            have zT_zh1 := (congrFun ezh1 _).symm.trans ((up_ne (by simp)).trans (TpA.rr zG1.2 zT).1)
            have zT2_zh1 := (congrFun ezh1 _).symm.trans ((up_ne (by simp)).trans (TpA.rr zG1.2 zT).2)
            have zg1 := RrG.up9 zG1 ezh1
            refine j_aload_n hc dX5_readsTerm_69 rfl ?_
            refine j_iload_n hc dX5_readsTerm_70 rfl ?_
            refine j_callV (d' := d - 1) hc dX5_readsTerm_71 vX5_89 zg1.1.1 (hP (d - 1) _ (r.2.1 + 1) _ _ (by omega) zg1.1 (TpA.rr zg1.2 zT) (by omega) (by omega) (by omega) (by omega)) rfl (by omega) (by omega) (by omega) rfl rfl (Nat.le_of_ble_eq_true rfl) (retE fun zv71 zq71 zp71 => ?_)
            have zp2 : RrP (P (r.2.1 + 1)) n _ _ _ _ _ := zp71
            have zvzp2 := RrP.val zp2
            subst zvzp2
            refine j_if_eq (b := 0) (tgt := 90) hc dX5_readsTerm_74 (by decide) (by split <;> exact ⟨by omega, by omega⟩) (fun zc5 => ?_) (fun zc5 => ?_)
            · have zu3 : ¬ (P (r.2.1 + 1)).1 = -1 := one_neg zc5
              have zx4 := RrG.bad zg1 zp2
              refine j_iconst hc dX5_readsTerm_90 ?_
              refine j_istore_n (L' := [_, _, _, _, _]) hc dX5_readsTerm_91 (Nat.le_of_ble_eq_true rfl) rfl ?_
              refine j_aload_n hc dX5_readsTerm_92 rfl ?_
              obtain ⟨⟨zizx4, zkzx4, zfzx4, zozx4, zazx4, zbzx4, zczx4, zdzx4⟩, zezx4⟩ := id zx4
              refine j_callU (d' := d - 1) hc dX5_readsTerm_93 uX5_44_c4 zozx4.1 (ev_X3_skipBlanks_c4 (b := b) (n := n) (by omega) zozx4.1 (TpA.rr zezx4 zT) hT (by omega) (by omega)) rfl (by omega) (by omega) (by omega) rfl rfl (Nat.le_of_ble_eq_true rfl) (retN fun zq93 zp93 => ?_)
              have zx5 := RrB.sk zozx4 zazx4 zbzx4 zczx4 zdzx4 zezx4 zp93.1 zp93.2
              refine j_iinc (L' := [_, _, _, _, _]) hc dX5_readsTerm_96 rfl (Nat.le_of_ble_eq_true rfl) rfl ?_
              refine j_goto (tgt := 12) hc dX5_readsTerm_99 (by decide) ?_
              exact ih _ (by omega) (x + 1) (rpT (P (r.2.1 + 1)) fun j t => (-1, skS b n j, r.2.2 ++ t ++ [if hrS b n r.2.1 = 42 then -8 else -9])) _ _ _ rfl (by omega) (((hg (r.2.1 + 1) (by omega) (by omega)).mono (by omega)).t fun zq => by
                  have zy1 := (hg (r.2.1 + 1) (by omega) (by omega)).2.2 zq
                  obtain ⟨zy2, zy3, -⟩ := skS_b b n (P (r.2.1 + 1)).2.1
                  have zy3 := zy3 zy1.2.1
                  exact ⟨by simp, by show (-1 : Int) ≤ n; omega, fun _ => by simp only [List.length_append, List.length_cons, List.length_nil]; omega⟩) (RrB.fin zx5 (by rw [rpT_no zu3]; rfl) zu3) (by rw [← hst, show 240 - x = (240 - (x + 1)) + 1 by omega]; rw [lpO_go ⟨zu9, by omega⟩])
            · have zu6 : (P (r.2.1 + 1)).1 = -1 := one_pos zc5
              have zg7 := RrG.seq zg1 zp2 zu6
              have zb8 := (hg (r.2.1 + 1) (by omega) (by omega)).2.2 zu6
              have zlzg7 := lap r.2.2 (P (r.2.1 + 1)).2.2
              refine j_aload_n hc dX5_readsTerm_77 rfl ?_
              refine j_iload hc dX5_readsTerm_78 rfl ?_
              refine j_callV (d' := d - 1) hc dX5_readsTerm_80 vX5_65 zg7.1.1 (ev_X5_writes (n := n) (x := (-9)) (by omega) zg7.1 (by omega) (by omega) rfl (by omega) (by omega)) rfl (by omega) (by omega) (by omega) rfl rfl (Nat.le_of_ble_eq_true rfl) (retE fun zv80 zq80 zp80 => ?_)
              obtain ⟨zvzg9, zg9⟩ := RrG.wr zg7 zp80
              subst zvzg9
              have zlzg9 := lap1 (r.2.2 ++ (P (r.2.1 + 1)).2.2) ((-9))
              refine j_if_eq (b := 0) (tgt := 90) hc dX5_readsTerm_83 (by decide) ⟨by omega, by omega⟩ (fun zc6 => ?_) (fun zc6 => ?_)
              · exact absurd zc6 (by decide)
              · refine j_iconst hc dX5_readsTerm_86 ?_
                refine j_goto (tgt := 91) hc dX5_readsTerm_87 (by decide) ?_
                refine j_istore_n (L' := [_, _, _, _, _]) hc dX5_readsTerm_91 (Nat.le_of_ble_eq_true rfl) rfl ?_
                refine j_aload_n hc dX5_readsTerm_92 rfl ?_
                refine j_callU (d' := d - 1) hc dX5_readsTerm_93 uX5_44_c4 zg9.1.1 (ev_X3_skipBlanks_c4 (b := b) (n := n) (by omega) zg9.1.1 (TpA.rr zg9.2 zT) hT (by omega) (by omega)) rfl (by omega) (by omega) (by omega) rfl rfl (Nat.le_of_ble_eq_true rfl) (retN fun zq93 zp93 => ?_)
                have zg10 := RrG.q9 zg9 zp93.1 zp93.2
                obtain ⟨zs111, zs112, zs113⟩ := skS_b b n (P (r.2.1 + 1)).2.1
                have zs112 := zs112 (by omega)
                have zs11h := hrS_b hb (skS b n (P (r.2.1 + 1)).2.1)
                refine j_iinc (L' := [_, _, _, _, _]) hc dX5_readsTerm_96 rfl (Nat.le_of_ble_eq_true rfl) rfl ?_
                refine j_goto (tgt := 12) hc dX5_readsTerm_99 (by decide) ?_
                exact ih _ (by omega) (x + 1) (rpT (P (r.2.1 + 1)) fun j t => (-1, skS b n j, r.2.2 ++ t ++ [if hrS b n r.2.1 = 42 then -8 else -9])) _ _ _ rfl (by omega) (((hg (r.2.1 + 1) (by omega) (by omega)).mono (by omega)).t fun zq => by
                    have zy1 := (hg (r.2.1 + 1) (by omega) (by omega)).2.2 zq
                    obtain ⟨zy2, zy3, -⟩ := skS_b b n (P (r.2.1 + 1)).2.1
                    have zy3 := zy3 zy1.2.1
                    exact ⟨by simp, by show (-1 : Int) ≤ n; omega, fun _ => by simp only [List.length_append, List.length_cons, List.length_nil]; omega⟩) (RrG.fin zg10 (by rw [rpT_ok zu6, if_neg (by omega)]) (by omega) (by omega) (by omega) (by omega)) (by rw [← hst, show 240 - x = (240 - (x + 1)) + 1 by omega]; rw [lpO_go ⟨zu9, by omega⟩])
          · refine j_bipush hc dX5_readsTerm_50 (by decide) ?_
            refine j_goto (tgt := 57) hc dX5_readsTerm_52 (by decide) ?_
            refine j_istore (L' := [_, _, _, _, _]) hc dX5_readsTerm_57 (Nat.le_of_ble_eq_true rfl) rfl ?_
            refine j_aload_n hc dX5_readsTerm_59 rfl ?_
            refine j_dup hc dX5_readsTerm_60 rfl ?_
            refine j_get hc dX5_readsTerm_61 fX5_80 zG1.1.1 rfl ?_
            refine j_iconst hc dX5_readsTerm_64 ?_
            refine j_iadd hc dX5_readsTerm_65 ?_
            refine j_put (fs' := [_, _, _, _, _]) hc dX5_readsTerm_66 pX5_80 zG1.1.1 rfl rfl ?_
            generalize ezh2 : up _ _ _ = zh2
            have zQ_zh2 := (congrFun ezh2 _).symm.trans (up_same _ _ _)
            have zQ10_zh2 := (congrFun ezh2 _).symm.trans ((up_ne (by simp)).trans zG1.1.2)
            have zT_zh2 := (congrFun ezh2 _).symm.trans ((up_ne (by simp)).trans (TpA.rr zG1.2 zT).1)
            have zT2_zh2 := (congrFun ezh2 _).symm.trans ((up_ne (by simp)).trans (TpA.rr zG1.2 zT).2)
            have zg12 := RrG.up9 zG1 ezh2
            refine j_aload_n hc dX5_readsTerm_69 rfl ?_
            refine j_iload_n hc dX5_readsTerm_70 rfl ?_
            refine j_callV (d' := d - 1) hc dX5_readsTerm_71 vX5_89 zg12.1.1 (hP (d - 1) _ (r.2.1 + 1) _ _ (by omega) zg12.1 (TpA.rr zg12.2 zT) (by omega) (by omega) (by omega) (by omega)) rfl (by omega) (by omega) (by omega) rfl rfl (Nat.le_of_ble_eq_true rfl) (retE fun zv71 zq71 zp71 => ?_)
            have zp13 : RrP (P (r.2.1 + 1)) n _ _ _ _ _ := zp71
            have zvzp13 := RrP.val zp13
            subst zvzp13
            refine j_if_eq (b := 0) (tgt := 90) hc dX5_readsTerm_74 (by decide) (by split <;> exact ⟨by omega, by omega⟩) (fun zc7 => ?_) (fun zc7 => ?_)
            · have zu14 : ¬ (P (r.2.1 + 1)).1 = -1 := one_neg zc7
              have zx15 := RrG.bad zg12 zp13
              refine j_iconst hc dX5_readsTerm_90 ?_
              refine j_istore_n (L' := [_, _, _, _, _]) hc dX5_readsTerm_91 (Nat.le_of_ble_eq_true rfl) rfl ?_
              refine j_aload_n hc dX5_readsTerm_92 rfl ?_
              obtain ⟨⟨zizx15, zkzx15, zfzx15, zozx15, zazx15, zbzx15, zczx15, zdzx15⟩, zezx15⟩ := id zx15
              refine j_callU (d' := d - 1) hc dX5_readsTerm_93 uX5_44_c4 zozx15.1 (ev_X3_skipBlanks_c4 (b := b) (n := n) (by omega) zozx15.1 (TpA.rr zezx15 zT) hT (by omega) (by omega)) rfl (by omega) (by omega) (by omega) rfl rfl (Nat.le_of_ble_eq_true rfl) (retN fun zq93 zp93 => ?_)
              have zx16 := RrB.sk zozx15 zazx15 zbzx15 zczx15 zdzx15 zezx15 zp93.1 zp93.2
              refine j_iinc (L' := [_, _, _, _, _]) hc dX5_readsTerm_96 rfl (Nat.le_of_ble_eq_true rfl) rfl ?_
              refine j_goto (tgt := 12) hc dX5_readsTerm_99 (by decide) ?_
              exact ih _ (by omega) (x + 1) (rpT (P (r.2.1 + 1)) fun j t => (-1, skS b n j, r.2.2 ++ t ++ [if hrS b n r.2.1 = 42 then -8 else -9])) _ _ _ rfl (by omega) (((hg (r.2.1 + 1) (by omega) (by omega)).mono (by omega)).t fun zq => by
                  have zy1 := (hg (r.2.1 + 1) (by omega) (by omega)).2.2 zq
                  obtain ⟨zy2, zy3, -⟩ := skS_b b n (P (r.2.1 + 1)).2.1
                  have zy3 := zy3 zy1.2.1
                  exact ⟨by simp, by show (-1 : Int) ≤ n; omega, fun _ => by simp only [List.length_append, List.length_cons, List.length_nil]; omega⟩) (RrB.fin zx16 (by rw [rpT_no zu14]; rfl) zu14) (by rw [← hst, show 240 - x = (240 - (x + 1)) + 1 by omega]; rw [lpO_go ⟨zu9, by omega⟩])
            · have zu17 : (P (r.2.1 + 1)).1 = -1 := one_pos zc7
              have zg18 := RrG.seq zg12 zp13 zu17
              have zb19 := (hg (r.2.1 + 1) (by omega) (by omega)).2.2 zu17
              have zlzg18 := lap r.2.2 (P (r.2.1 + 1)).2.2
              refine j_aload_n hc dX5_readsTerm_77 rfl ?_
              refine j_iload hc dX5_readsTerm_78 rfl ?_
              refine j_callV (d' := d - 1) hc dX5_readsTerm_80 vX5_65 zg18.1.1 (ev_X5_writes (n := n) (x := (-8)) (by omega) zg18.1 (by omega) (by omega) rfl (by omega) (by omega)) rfl (by omega) (by omega) (by omega) rfl rfl (Nat.le_of_ble_eq_true rfl) (retE fun zv80 zq80 zp80 => ?_)
              obtain ⟨zvzg20, zg20⟩ := RrG.wr zg18 zp80
              subst zvzg20
              have zlzg20 := lap1 (r.2.2 ++ (P (r.2.1 + 1)).2.2) ((-8))
              refine j_if_eq (b := 0) (tgt := 90) hc dX5_readsTerm_83 (by decide) ⟨by omega, by omega⟩ (fun zc8 => ?_) (fun zc8 => ?_)
              · exact absurd zc8 (by decide)
              · refine j_iconst hc dX5_readsTerm_86 ?_
                refine j_goto (tgt := 91) hc dX5_readsTerm_87 (by decide) ?_
                refine j_istore_n (L' := [_, _, _, _, _]) hc dX5_readsTerm_91 (Nat.le_of_ble_eq_true rfl) rfl ?_
                refine j_aload_n hc dX5_readsTerm_92 rfl ?_
                refine j_callU (d' := d - 1) hc dX5_readsTerm_93 uX5_44_c4 zg20.1.1 (ev_X3_skipBlanks_c4 (b := b) (n := n) (by omega) zg20.1.1 (TpA.rr zg20.2 zT) hT (by omega) (by omega)) rfl (by omega) (by omega) (by omega) rfl rfl (Nat.le_of_ble_eq_true rfl) (retN fun zq93 zp93 => ?_)
                have zg21 := RrG.q9 zg20 zp93.1 zp93.2
                obtain ⟨zs221, zs222, zs223⟩ := skS_b b n (P (r.2.1 + 1)).2.1
                have zs222 := zs222 (by omega)
                have zs22h := hrS_b hb (skS b n (P (r.2.1 + 1)).2.1)
                refine j_iinc (L' := [_, _, _, _, _]) hc dX5_readsTerm_96 rfl (Nat.le_of_ble_eq_true rfl) rfl ?_
                refine j_goto (tgt := 12) hc dX5_readsTerm_99 (by decide) ?_
                exact ih _ (by omega) (x + 1) (rpT (P (r.2.1 + 1)) fun j t => (-1, skS b n j, r.2.2 ++ t ++ [if hrS b n r.2.1 = 42 then -8 else -9])) _ _ _ rfl (by omega) (((hg (r.2.1 + 1) (by omega) (by omega)).mono (by omega)).t fun zq => by
                    have zy1 := (hg (r.2.1 + 1) (by omega) (by omega)).2.2 zq
                    obtain ⟨zy2, zy3, -⟩ := skS_b b n (P (r.2.1 + 1)).2.1
                    have zy3 := zy3 zy1.2.1
                    exact ⟨by simp, by show (-1 : Int) ≤ n; omega, fun _ => by simp only [List.length_append, List.length_cons, List.length_nil]; omega⟩) (RrG.fin zg21 (by rw [rpT_ok zu17, if_pos (by omega)]) (by omega) (by omega) (by omega) (by omega)) (by rw [← hst, show 240 - x = (240 - (x + 1)) + 1 by omega]; rw [lpO_go ⟨zu9, by omega⟩])
        · refine j_aload_n hc dX5_readsTerm_32 rfl ?_
          refine j_callU (d' := d - 1) hc dX5_readsTerm_33 uX5_47_c4 zG1.1.1 (ev_X3_here_c4 (b := b) (n := n) (by omega) zG1.1.1 (TpA.rr zG1.2 zT) hT (by omega) (by omega)) rfl (by omega) (by omega) (by omega) rfl rfl (Nat.le_of_ble_eq_true rfl) (ret1 ?_)
          refine j_bipush hc dX5_readsTerm_36 (by decide) ?_
          refine j_icmp_ne (tgt := 102) hc dX5_readsTerm_38 (by decide) ⟨by omega, by omega⟩ ⟨by omega, by omega⟩ (fun zc9 => ?_) (fun zc9 => ?_)
          · refine j_iload_n hc dX5_readsTerm_102 rfl ?_
            exact j_zret hc he dX5_readsTerm_103 rfl (by omega) (by omega) (by split <;> first | exact Or.inr rfl | exact Or.inl rfl) ⟨_, rfl, by rw [← hst, lpO_stop (fun zq => by first | exact zu9 zq.1 | (have := zq.2; omega))]; exact hr⟩
          · have zlt : r.2.1 < n := hrS_lt (b := b) (by omega) (by omega)
            refine j_aload_n hc dX5_readsTerm_41 rfl ?_
            refine j_callU (d' := d - 1) hc dX5_readsTerm_42 uX5_47_c4 zG1.1.1 (ev_X3_here_c4 (b := b) (n := n) (by omega) zG1.1.1 (TpA.rr zG1.2 zT) hT (by omega) (by omega)) rfl (by omega) (by omega) (by omega) rfl rfl (Nat.le_of_ble_eq_true rfl) (ret1 ?_)
            refine j_bipush hc dX5_readsTerm_45 (by decide) ?_
            refine j_icmp_ne (tgt := 55) hc dX5_readsTerm_47 (by decide) ⟨by omega, by omega⟩ ⟨by omega, by omega⟩ (fun zc10 => ?_) (fun zc10 => ?_)
            · refine j_bipush hc dX5_readsTerm_55 (by decide) ?_
              refine j_istore (L' := [_, _, _, _, _]) hc dX5_readsTerm_57 (Nat.le_of_ble_eq_true rfl) rfl ?_
              refine j_aload_n hc dX5_readsTerm_59 rfl ?_
              refine j_dup hc dX5_readsTerm_60 rfl ?_
              refine j_get hc dX5_readsTerm_61 fX5_80 zG1.1.1 rfl ?_
              refine j_iconst hc dX5_readsTerm_64 ?_
              refine j_iadd hc dX5_readsTerm_65 ?_
              refine j_put (fs' := [_, _, _, _, _]) hc dX5_readsTerm_66 pX5_80 zG1.1.1 rfl rfl ?_
              generalize ezh3 : up _ _ _ = zh3
              have zQ_zh3 := (congrFun ezh3 _).symm.trans (up_same _ _ _)
              have zQ10_zh3 := (congrFun ezh3 _).symm.trans ((up_ne (by simp)).trans zG1.1.2)
              have zT_zh3 := (congrFun ezh3 _).symm.trans ((up_ne (by simp)).trans (TpA.rr zG1.2 zT).1)
              have zT2_zh3 := (congrFun ezh3 _).symm.trans ((up_ne (by simp)).trans (TpA.rr zG1.2 zT).2)
              have zg23 := RrG.up9 zG1 ezh3
              refine j_aload_n hc dX5_readsTerm_69 rfl ?_
              refine j_iload_n hc dX5_readsTerm_70 rfl ?_
              refine j_callV (d' := d - 1) hc dX5_readsTerm_71 vX5_89 zg23.1.1 (hP (d - 1) _ (r.2.1 + 1) _ _ (by omega) zg23.1 (TpA.rr zg23.2 zT) (by omega) (by omega) (by omega) (by omega)) rfl (by omega) (by omega) (by omega) rfl rfl (Nat.le_of_ble_eq_true rfl) (retE fun zv71 zq71 zp71 => ?_)
              have zp24 : RrP (P (r.2.1 + 1)) n _ _ _ _ _ := zp71
              have zvzp24 := RrP.val zp24
              subst zvzp24
              refine j_if_eq (b := 0) (tgt := 90) hc dX5_readsTerm_74 (by decide) (by split <;> exact ⟨by omega, by omega⟩) (fun zc11 => ?_) (fun zc11 => ?_)
              · have zu25 : ¬ (P (r.2.1 + 1)).1 = -1 := one_neg zc11
                have zx26 := RrG.bad zg23 zp24
                refine j_iconst hc dX5_readsTerm_90 ?_
                refine j_istore_n (L' := [_, _, _, _, _]) hc dX5_readsTerm_91 (Nat.le_of_ble_eq_true rfl) rfl ?_
                refine j_aload_n hc dX5_readsTerm_92 rfl ?_
                obtain ⟨⟨zizx26, zkzx26, zfzx26, zozx26, zazx26, zbzx26, zczx26, zdzx26⟩, zezx26⟩ := id zx26
                refine j_callU (d' := d - 1) hc dX5_readsTerm_93 uX5_44_c4 zozx26.1 (ev_X3_skipBlanks_c4 (b := b) (n := n) (by omega) zozx26.1 (TpA.rr zezx26 zT) hT (by omega) (by omega)) rfl (by omega) (by omega) (by omega) rfl rfl (Nat.le_of_ble_eq_true rfl) (retN fun zq93 zp93 => ?_)
                have zx27 := RrB.sk zozx26 zazx26 zbzx26 zczx26 zdzx26 zezx26 zp93.1 zp93.2
                refine j_iinc (L' := [_, _, _, _, _]) hc dX5_readsTerm_96 rfl (Nat.le_of_ble_eq_true rfl) rfl ?_
                refine j_goto (tgt := 12) hc dX5_readsTerm_99 (by decide) ?_
                exact ih _ (by omega) (x + 1) (rpT (P (r.2.1 + 1)) fun j t => (-1, skS b n j, r.2.2 ++ t ++ [if hrS b n r.2.1 = 42 then -8 else -9])) _ _ _ rfl (by omega) (((hg (r.2.1 + 1) (by omega) (by omega)).mono (by omega)).t fun zq => by
                    have zy1 := (hg (r.2.1 + 1) (by omega) (by omega)).2.2 zq
                    obtain ⟨zy2, zy3, -⟩ := skS_b b n (P (r.2.1 + 1)).2.1
                    have zy3 := zy3 zy1.2.1
                    exact ⟨by simp, by show (-1 : Int) ≤ n; omega, fun _ => by simp only [List.length_append, List.length_cons, List.length_nil]; omega⟩) (RrB.fin zx27 (by rw [rpT_no zu25]; rfl) zu25) (by rw [← hst, show 240 - x = (240 - (x + 1)) + 1 by omega]; rw [lpO_go ⟨zu9, by omega⟩])
              · have zu28 : (P (r.2.1 + 1)).1 = -1 := one_pos zc11
                have zg29 := RrG.seq zg23 zp24 zu28
                have zb30 := (hg (r.2.1 + 1) (by omega) (by omega)).2.2 zu28
                have zlzg29 := lap r.2.2 (P (r.2.1 + 1)).2.2
                refine j_aload_n hc dX5_readsTerm_77 rfl ?_
                refine j_iload hc dX5_readsTerm_78 rfl ?_
                refine j_callV (d' := d - 1) hc dX5_readsTerm_80 vX5_65 zg29.1.1 (ev_X5_writes (n := n) (x := (-9)) (by omega) zg29.1 (by omega) (by omega) rfl (by omega) (by omega)) rfl (by omega) (by omega) (by omega) rfl rfl (Nat.le_of_ble_eq_true rfl) (retE fun zv80 zq80 zp80 => ?_)
                obtain ⟨zvzg31, zg31⟩ := RrG.wr zg29 zp80
                subst zvzg31
                have zlzg31 := lap1 (r.2.2 ++ (P (r.2.1 + 1)).2.2) ((-9))
                refine j_if_eq (b := 0) (tgt := 90) hc dX5_readsTerm_83 (by decide) ⟨by omega, by omega⟩ (fun zc12 => ?_) (fun zc12 => ?_)
                · exact absurd zc12 (by decide)
                · refine j_iconst hc dX5_readsTerm_86 ?_
                  refine j_goto (tgt := 91) hc dX5_readsTerm_87 (by decide) ?_
                  refine j_istore_n (L' := [_, _, _, _, _]) hc dX5_readsTerm_91 (Nat.le_of_ble_eq_true rfl) rfl ?_
                  refine j_aload_n hc dX5_readsTerm_92 rfl ?_
                  refine j_callU (d' := d - 1) hc dX5_readsTerm_93 uX5_44_c4 zg31.1.1 (ev_X3_skipBlanks_c4 (b := b) (n := n) (by omega) zg31.1.1 (TpA.rr zg31.2 zT) hT (by omega) (by omega)) rfl (by omega) (by omega) (by omega) rfl rfl (Nat.le_of_ble_eq_true rfl) (retN fun zq93 zp93 => ?_)
                  have zg32 := RrG.q9 zg31 zp93.1 zp93.2
                  obtain ⟨zs331, zs332, zs333⟩ := skS_b b n (P (r.2.1 + 1)).2.1
                  have zs332 := zs332 (by omega)
                  have zs33h := hrS_b hb (skS b n (P (r.2.1 + 1)).2.1)
                  refine j_iinc (L' := [_, _, _, _, _]) hc dX5_readsTerm_96 rfl (Nat.le_of_ble_eq_true rfl) rfl ?_
                  refine j_goto (tgt := 12) hc dX5_readsTerm_99 (by decide) ?_
                  exact ih _ (by omega) (x + 1) (rpT (P (r.2.1 + 1)) fun j t => (-1, skS b n j, r.2.2 ++ t ++ [if hrS b n r.2.1 = 42 then -8 else -9])) _ _ _ rfl (by omega) (((hg (r.2.1 + 1) (by omega) (by omega)).mono (by omega)).t fun zq => by
                      have zy1 := (hg (r.2.1 + 1) (by omega) (by omega)).2.2 zq
                      obtain ⟨zy2, zy3, -⟩ := skS_b b n (P (r.2.1 + 1)).2.1
                      have zy3 := zy3 zy1.2.1
                      exact ⟨by simp, by show (-1 : Int) ≤ n; omega, fun _ => by simp only [List.length_append, List.length_cons, List.length_nil]; omega⟩) (RrG.fin zg32 (by rw [rpT_ok zu28, if_neg (by omega)]) (by omega) (by omega) (by omega) (by omega)) (by rw [← hst, show 240 - x = (240 - (x + 1)) + 1 by omega]; rw [lpO_go ⟨zu9, by omega⟩])
            · refine j_bipush hc dX5_readsTerm_50 (by decide) ?_
              refine j_goto (tgt := 57) hc dX5_readsTerm_52 (by decide) ?_
              refine j_istore (L' := [_, _, _, _, _]) hc dX5_readsTerm_57 (Nat.le_of_ble_eq_true rfl) rfl ?_
              refine j_aload_n hc dX5_readsTerm_59 rfl ?_
              refine j_dup hc dX5_readsTerm_60 rfl ?_
              refine j_get hc dX5_readsTerm_61 fX5_80 zG1.1.1 rfl ?_
              refine j_iconst hc dX5_readsTerm_64 ?_
              refine j_iadd hc dX5_readsTerm_65 ?_
              refine j_put (fs' := [_, _, _, _, _]) hc dX5_readsTerm_66 pX5_80 zG1.1.1 rfl rfl ?_
              generalize ezh4 : up _ _ _ = zh4
              have zQ_zh4 := (congrFun ezh4 _).symm.trans (up_same _ _ _)
              have zQ10_zh4 := (congrFun ezh4 _).symm.trans ((up_ne (by simp)).trans zG1.1.2)
              have zT_zh4 := (congrFun ezh4 _).symm.trans ((up_ne (by simp)).trans (TpA.rr zG1.2 zT).1)
              have zT2_zh4 := (congrFun ezh4 _).symm.trans ((up_ne (by simp)).trans (TpA.rr zG1.2 zT).2)
              have zg34 := RrG.up9 zG1 ezh4
              refine j_aload_n hc dX5_readsTerm_69 rfl ?_
              refine j_iload_n hc dX5_readsTerm_70 rfl ?_
              refine j_callV (d' := d - 1) hc dX5_readsTerm_71 vX5_89 zg34.1.1 (hP (d - 1) _ (r.2.1 + 1) _ _ (by omega) zg34.1 (TpA.rr zg34.2 zT) (by omega) (by omega) (by omega) (by omega)) rfl (by omega) (by omega) (by omega) rfl rfl (Nat.le_of_ble_eq_true rfl) (retE fun zv71 zq71 zp71 => ?_)
              have zp35 : RrP (P (r.2.1 + 1)) n _ _ _ _ _ := zp71
              have zvzp35 := RrP.val zp35
              subst zvzp35
              refine j_if_eq (b := 0) (tgt := 90) hc dX5_readsTerm_74 (by decide) (by split <;> exact ⟨by omega, by omega⟩) (fun zc13 => ?_) (fun zc13 => ?_)
              · have zu36 : ¬ (P (r.2.1 + 1)).1 = -1 := one_neg zc13
                have zx37 := RrG.bad zg34 zp35
                refine j_iconst hc dX5_readsTerm_90 ?_
                refine j_istore_n (L' := [_, _, _, _, _]) hc dX5_readsTerm_91 (Nat.le_of_ble_eq_true rfl) rfl ?_
                refine j_aload_n hc dX5_readsTerm_92 rfl ?_
                obtain ⟨⟨zizx37, zkzx37, zfzx37, zozx37, zazx37, zbzx37, zczx37, zdzx37⟩, zezx37⟩ := id zx37
                refine j_callU (d' := d - 1) hc dX5_readsTerm_93 uX5_44_c4 zozx37.1 (ev_X3_skipBlanks_c4 (b := b) (n := n) (by omega) zozx37.1 (TpA.rr zezx37 zT) hT (by omega) (by omega)) rfl (by omega) (by omega) (by omega) rfl rfl (Nat.le_of_ble_eq_true rfl) (retN fun zq93 zp93 => ?_)
                have zx38 := RrB.sk zozx37 zazx37 zbzx37 zczx37 zdzx37 zezx37 zp93.1 zp93.2
                refine j_iinc (L' := [_, _, _, _, _]) hc dX5_readsTerm_96 rfl (Nat.le_of_ble_eq_true rfl) rfl ?_
                refine j_goto (tgt := 12) hc dX5_readsTerm_99 (by decide) ?_
                exact ih _ (by omega) (x + 1) (rpT (P (r.2.1 + 1)) fun j t => (-1, skS b n j, r.2.2 ++ t ++ [if hrS b n r.2.1 = 42 then -8 else -9])) _ _ _ rfl (by omega) (((hg (r.2.1 + 1) (by omega) (by omega)).mono (by omega)).t fun zq => by
                    have zy1 := (hg (r.2.1 + 1) (by omega) (by omega)).2.2 zq
                    obtain ⟨zy2, zy3, -⟩ := skS_b b n (P (r.2.1 + 1)).2.1
                    have zy3 := zy3 zy1.2.1
                    exact ⟨by simp, by show (-1 : Int) ≤ n; omega, fun _ => by simp only [List.length_append, List.length_cons, List.length_nil]; omega⟩) (RrB.fin zx38 (by rw [rpT_no zu36]; rfl) zu36) (by rw [← hst, show 240 - x = (240 - (x + 1)) + 1 by omega]; rw [lpO_go ⟨zu9, by omega⟩])
              · have zu39 : (P (r.2.1 + 1)).1 = -1 := one_pos zc13
                have zg40 := RrG.seq zg34 zp35 zu39
                have zb41 := (hg (r.2.1 + 1) (by omega) (by omega)).2.2 zu39
                have zlzg40 := lap r.2.2 (P (r.2.1 + 1)).2.2
                refine j_aload_n hc dX5_readsTerm_77 rfl ?_
                refine j_iload hc dX5_readsTerm_78 rfl ?_
                refine j_callV (d' := d - 1) hc dX5_readsTerm_80 vX5_65 zg40.1.1 (ev_X5_writes (n := n) (x := (-8)) (by omega) zg40.1 (by omega) (by omega) rfl (by omega) (by omega)) rfl (by omega) (by omega) (by omega) rfl rfl (Nat.le_of_ble_eq_true rfl) (retE fun zv80 zq80 zp80 => ?_)
                obtain ⟨zvzg42, zg42⟩ := RrG.wr zg40 zp80
                subst zvzg42
                have zlzg42 := lap1 (r.2.2 ++ (P (r.2.1 + 1)).2.2) ((-8))
                refine j_if_eq (b := 0) (tgt := 90) hc dX5_readsTerm_83 (by decide) ⟨by omega, by omega⟩ (fun zc14 => ?_) (fun zc14 => ?_)
                · exact absurd zc14 (by decide)
                · refine j_iconst hc dX5_readsTerm_86 ?_
                  refine j_goto (tgt := 91) hc dX5_readsTerm_87 (by decide) ?_
                  refine j_istore_n (L' := [_, _, _, _, _]) hc dX5_readsTerm_91 (Nat.le_of_ble_eq_true rfl) rfl ?_
                  refine j_aload_n hc dX5_readsTerm_92 rfl ?_
                  refine j_callU (d' := d - 1) hc dX5_readsTerm_93 uX5_44_c4 zg42.1.1 (ev_X3_skipBlanks_c4 (b := b) (n := n) (by omega) zg42.1.1 (TpA.rr zg42.2 zT) hT (by omega) (by omega)) rfl (by omega) (by omega) (by omega) rfl rfl (Nat.le_of_ble_eq_true rfl) (retN fun zq93 zp93 => ?_)
                  have zg43 := RrG.q9 zg42 zp93.1 zp93.2
                  obtain ⟨zs441, zs442, zs443⟩ := skS_b b n (P (r.2.1 + 1)).2.1
                  have zs442 := zs442 (by omega)
                  have zs44h := hrS_b hb (skS b n (P (r.2.1 + 1)).2.1)
                  refine j_iinc (L' := [_, _, _, _, _]) hc dX5_readsTerm_96 rfl (Nat.le_of_ble_eq_true rfl) rfl ?_
                  refine j_goto (tgt := 12) hc dX5_readsTerm_99 (by decide) ?_
                  exact ih _ (by omega) (x + 1) (rpT (P (r.2.1 + 1)) fun j t => (-1, skS b n j, r.2.2 ++ t ++ [if hrS b n r.2.1 = 42 then -8 else -9])) _ _ _ rfl (by omega) (((hg (r.2.1 + 1) (by omega) (by omega)).mono (by omega)).t fun zq => by
                      have zy1 := (hg (r.2.1 + 1) (by omega) (by omega)).2.2 zq
                      obtain ⟨zy2, zy3, -⟩ := skS_b b n (P (r.2.1 + 1)).2.1
                      have zy3 := zy3 zy1.2.1
                      exact ⟨by simp, by show (-1 : Int) ≤ n; omega, fun _ => by simp only [List.length_append, List.length_cons, List.length_nil]; omega⟩) (RrG.fin zg43 (by rw [rpT_ok zu39, if_pos (by omega)]) (by omega) (by omega) (by omega) (by omega)) (by rw [← hst, show 240 - x = (240 - (x + 1)) + 1 by omega]; rw [lpO_go ⟨zu9, by omega⟩])
set_option maxRecDepth 100000 in
set_option maxHeartbeats 4000000 in
theorem nt_X5_readsTerm {k : WC} {b : Int → Int} {n dp : Int} {c : Nat} {P : Int → RP} (hT : TpOK b n) (hg : GdP n P) (hP : NtE k mdX5_readsAtom b n dp c P) : NtE k mdX5_readsTerm b n dp (c + 2) (tmG b n P) := by
  intro d h i cl cf hd zO zT hi0 hi1 hc0 hc1
  obtain ⟨hn0, hn1, hb⟩ := id hT
  have zG0 := RrG.st zO
  have zl0 : (([] : List Int).length : Int) = 0 := rfl
  refine Ev.mk (by decide +kernel) [_, _, _, _, _] rfl (Nat.le_of_ble_eq_true rfl) (fun w hc he => ?_)
  refine j_aload_n hc dX5_readsTerm_0 rfl ?_
  refine j_iload_n hc dX5_readsTerm_1 rfl ?_
  refine j_callV (d' := d - 1) hc dX5_readsTerm_2 vX5_89 zG0.1.1 (hP (d - 1) _ i _ _ (by omega) zO zT (by omega) (by omega) (by omega) (by omega)) rfl (by omega) (by omega) (by omega) rfl rfl (Nat.le_of_ble_eq_true rfl) (retE fun zv2 zq2 zp2 => ?_)
  have zp0 := zp2
  have zvp0 := RrP.val zp0
  subst zvp0
  refine j_istore_n (L' := [_, _, _, _, _]) hc dX5_readsTerm_5 (Nat.le_of_ble_eq_true rfl) rfl ?_
  refine j_aload_n hc dX5_readsTerm_6 rfl ?_
  obtain ⟨zi9, zj9, zf9, zv9, zo9, zk9, za9, zb9, zc9, zd9, ze9⟩ := id zp0
  refine j_callU (d' := d - 1) hc dX5_readsTerm_7 uX5_44_c4 zo9.1 (ev_X3_skipBlanks_c4 (b := b) (n := n) (by omega) zo9.1 (TpA.rr ze9 zT) hT (by omega) (by omega)) rfl (by omega) (by omega) (by omega) rfl rfl (Nat.le_of_ble_eq_true rfl) (retN fun zq7 zp7 => ?_)
  have zS := RrP.sk zb9 zo9 zk9 za9 zc9 zd9 ze9 zp7.1 zp7.2
  refine j_iconst hc dX5_readsTerm_10 ?_
  refine j_istore_n (L' := [_, _, _, _, _]) hc dX5_readsTerm_11 (Nat.le_of_ble_eq_true rfl) rfl ?_
  exact lp_X5_readsTerm hT hg hP (by omega) (by omega) zT hi0 hc0 hc1 hc he _ 0 _ _ _ _ rfl (by omega) (((hg i hi0 hi1)).t fun zq => by
      have zy1 := (hg i hi0 hi1).2.2 zq
      obtain ⟨zy2, zy3, -⟩ := skS_b b n (P i).2.1
      have zy3 := zy3 zy1.2.1
      exact ⟨by simp, by show (-1 : Int) ≤ n; omega, fun _ => by simp only; omega⟩) zS rfl
set_option maxRecDepth 100000 in
set_option maxHeartbeats 4000000 in
theorem lp_X5_readsSum {k : WC} {d : Nat} {w : MC} {h : AH} {b : Int → Int} {n dp i cl : Int} {c : Nat} {cf : Int → Int} {P : Int → RP} (hT : TpOK b n) (hg : GdP n P) (hP : NtE k mdX5_readsTerm b n dp c P) (hd : c + 1 ≤ d) (hd2 : 2 ≤ d) (zT : TpA h b n) (hi0 : 0 ≤ i) (hc0 : 0 ≤ cl) (hc1 : cl ≤ i) (hc : Cx w k d 0 0 mdX5_readsSum) (he : Ends w 0 0 (pe fun v h' => RrP (smG b n P i) n cl cf h h' v)) : ∀ (zm : Nat) (x : Nat) (r : RP) (v : AV) (h' : AH) (z4 : Option AV), 240 - x = zm → x ≤ 240 → RpB n i r → RrP r n cl cf h h' v → lpO b n P 43 (-6) 45 (-7) (240 - x) r = smG b n P i → J w 0 0 12 [some (vR (9, 0)), some (vI dp), some v, some (vI x), z4] [] h' := by
  intro zm
  induction zm using Nat.strongRecOn with
  | _ zm ih =>
    intro x r v h' z4 hm hx hB hr hst
    obtain ⟨hn0, hn1, hb⟩ := id hT
    have zvr := RrP.val hr
    subst zvr
    refine j_iload_n hc dX5_readsSum_12 rfl ?_
    refine j_sipush hc dX5_readsSum_13 (by decide) ?_
    refine j_icmp_ge (tgt := 102) hc dX5_readsSum_16 (by decide) ⟨by omega, by omega⟩ ⟨by omega, by omega⟩ (fun zc1 => ?_) (fun zc1 => ?_)
    · have zx9 : 240 - x = 0 := by omega
      refine j_iload_n hc dX5_readsSum_102 rfl ?_
      exact j_zret hc he dX5_readsSum_103 rfl (by omega) (by omega) (by split <;> first | exact Or.inr rfl | exact Or.inl rfl) ⟨_, rfl, by rw [← hst, zx9, lpO]; exact hr⟩
    · refine j_iload_n hc dX5_readsSum_19 rfl ?_
      refine j_if_eq (b := 0) (tgt := 102) hc dX5_readsSum_20 (by decide) (by split <;> exact ⟨by omega, by omega⟩) (fun zc2 => ?_) (fun zc2 => ?_)
      · have zu9 : ¬ r.1 = -1 := one_neg zc2
        refine j_iload_n hc dX5_readsSum_102 rfl ?_
        exact j_zret hc he dX5_readsSum_103 rfl (by omega) (by omega) (by split <;> first | exact Or.inr rfl | exact Or.inl rfl) ⟨_, rfl, by rw [← hst, lpO_stop (fun zq => by first | exact zu9 zq.1 | (have := zq.2; omega))]; exact hr⟩
      · have zu9 : r.1 = -1 := one_pos zc2
        have zG1 := RrP.good hr zu9
        obtain ⟨zr1, zr2, zr3⟩ := hB.2.2 zu9
        have zh1 := hrS_b hb r.2.1
        refine j_aload_n hc dX5_readsSum_23 rfl ?_
        refine j_callU (d' := d - 1) hc dX5_readsSum_24 uX5_47_c4 zG1.1.1 (ev_X3_here_c4 (b := b) (n := n) (by omega) zG1.1.1 (TpA.rr zG1.2 zT) hT (by omega) (by omega)) rfl (by omega) (by omega) (by omega) rfl rfl (Nat.le_of_ble_eq_true rfl) (ret1 ?_)
        refine j_bipush hc dX5_readsSum_27 (by decide) ?_
        refine j_icmp_eq (tgt := 41) hc dX5_readsSum_29 (by decide) ⟨by omega, by omega⟩ ⟨by omega, by omega⟩ (fun zc3 => ?_) (fun zc3 => ?_)
        · have zlt : r.2.1 < n := hrS_lt (b := b) (by omega) (by omega)
          refine j_aload_n hc dX5_readsSum_41 rfl ?_
          refine j_callU (d' := d - 1) hc dX5_readsSum_42 uX5_47_c4 zG1.1.1 (ev_X3_here_c4 (b := b) (n := n) (by omega) zG1.1.1 (TpA.rr zG1.2 zT) hT (by omega) (by omega)) rfl (by omega) (by omega) (by omega) rfl rfl (Nat.le_of_ble_eq_true rfl) (ret1 ?_)
          refine j_bipush hc dX5_readsSum_45 (by decide) ?_
          refine j_icmp_ne (tgt := 55) hc dX5_readsSum_47 (by decide) ⟨by omega, by omega⟩ ⟨by omega, by omega⟩ (fun zc4 => ?_) (fun zc4 => ?_)
          · refine j_bipush hc dX5_readsSum_55 (by decide) ?_
            refine j_istore (L' := [_, _, _, _, _]) hc dX5_readsSum_57 (Nat.le_of_ble_eq_true rfl) rfl ?_
            refine j_aload_n hc dX5_readsSum_59 rfl ?_
            refine j_dup hc dX5_readsSum_60 rfl ?_
            refine j_get hc dX5_readsSum_61 fX5_80 zG1.1.1 rfl ?_
            refine j_iconst hc dX5_readsSum_64 ?_
            refine j_iadd hc dX5_readsSum_65 ?_
            refine j_put (fs' := [_, _, _, _, _]) hc dX5_readsSum_66 pX5_80 zG1.1.1 rfl rfl ?_
            generalize ezh1 : up _ _ _ = zh1
            have zQ_zh1 := (congrFun ezh1 _).symm.trans (up_same _ _ _)
            have zQ10_zh1 := (congrFun ezh1 _).symm.trans ((up_ne (by simp)).trans zG1.1.2)
            have zT_zh1 := (congrFun ezh1 _).symm.trans ((up_ne (by simp)).trans (TpA.rr zG1.2 zT).1)
            have zT2_zh1 := (congrFun ezh1 _).symm.trans ((up_ne (by simp)).trans (TpA.rr zG1.2 zT).2)
            have zg45 := RrG.up9 zG1 ezh1
            refine j_aload_n hc dX5_readsSum_69 rfl ?_
            refine j_iload_n hc dX5_readsSum_70 rfl ?_
            refine j_callV (d' := d - 1) hc dX5_readsSum_71 vX5_86 zg45.1.1 (hP (d - 1) _ (r.2.1 + 1) _ _ (by omega) zg45.1 (TpA.rr zg45.2 zT) (by omega) (by omega) (by omega) (by omega)) rfl (by omega) (by omega) (by omega) rfl rfl (Nat.le_of_ble_eq_true rfl) (retE fun zv71 zq71 zp71 => ?_)
            have zp46 : RrP (P (r.2.1 + 1)) n _ _ _ _ _ := zp71
            have zvzp46 := RrP.val zp46
            subst zvzp46
            refine j_if_eq (b := 0) (tgt := 90) hc dX5_readsSum_74 (by decide) (by split <;> exact ⟨by omega, by omega⟩) (fun zc5 => ?_) (fun zc5 => ?_)
            · have zu47 : ¬ (P (r.2.1 + 1)).1 = -1 := one_neg zc5
              have zx48 := RrG.bad zg45 zp46
              refine j_iconst hc dX5_readsSum_90 ?_
              refine j_istore_n (L' := [_, _, _, _, _]) hc dX5_readsSum_91 (Nat.le_of_ble_eq_true rfl) rfl ?_
              refine j_aload_n hc dX5_readsSum_92 rfl ?_
              obtain ⟨⟨zizx48, zkzx48, zfzx48, zozx48, zazx48, zbzx48, zczx48, zdzx48⟩, zezx48⟩ := id zx48
              refine j_callU (d' := d - 1) hc dX5_readsSum_93 uX5_44_c4 zozx48.1 (ev_X3_skipBlanks_c4 (b := b) (n := n) (by omega) zozx48.1 (TpA.rr zezx48 zT) hT (by omega) (by omega)) rfl (by omega) (by omega) (by omega) rfl rfl (Nat.le_of_ble_eq_true rfl) (retN fun zq93 zp93 => ?_)
              have zx49 := RrB.sk zozx48 zazx48 zbzx48 zczx48 zdzx48 zezx48 zp93.1 zp93.2
              refine j_iinc (L' := [_, _, _, _, _]) hc dX5_readsSum_96 rfl (Nat.le_of_ble_eq_true rfl) rfl ?_
              refine j_goto (tgt := 12) hc dX5_readsSum_99 (by decide) ?_
              exact ih _ (by omega) (x + 1) (rpT (P (r.2.1 + 1)) fun j t => (-1, skS b n j, r.2.2 ++ t ++ [if hrS b n r.2.1 = 43 then -6 else -7])) _ _ _ rfl (by omega) (((hg (r.2.1 + 1) (by omega) (by omega)).mono (by omega)).t fun zq => by
                  have zy1 := (hg (r.2.1 + 1) (by omega) (by omega)).2.2 zq
                  obtain ⟨zy2, zy3, -⟩ := skS_b b n (P (r.2.1 + 1)).2.1
                  have zy3 := zy3 zy1.2.1
                  exact ⟨by simp, by show (-1 : Int) ≤ n; omega, fun _ => by simp only [List.length_append, List.length_cons, List.length_nil]; omega⟩) (RrB.fin zx49 (by rw [rpT_no zu47]; rfl) zu47) (by rw [← hst, show 240 - x = (240 - (x + 1)) + 1 by omega]; rw [lpO_go ⟨zu9, by omega⟩])
            · have zu50 : (P (r.2.1 + 1)).1 = -1 := one_pos zc5
              have zg51 := RrG.seq zg45 zp46 zu50
              have zb52 := (hg (r.2.1 + 1) (by omega) (by omega)).2.2 zu50
              have zlzg51 := lap r.2.2 (P (r.2.1 + 1)).2.2
              refine j_aload_n hc dX5_readsSum_77 rfl ?_
              refine j_iload hc dX5_readsSum_78 rfl ?_
              refine j_callV (d' := d - 1) hc dX5_readsSum_80 vX5_65 zg51.1.1 (ev_X5_writes (n := n) (x := (-7)) (by omega) zg51.1 (by omega) (by omega) rfl (by omega) (by omega)) rfl (by omega) (by omega) (by omega) rfl rfl (Nat.le_of_ble_eq_true rfl) (retE fun zv80 zq80 zp80 => ?_)
              obtain ⟨zvzg53, zg53⟩ := RrG.wr zg51 zp80
              subst zvzg53
              have zlzg53 := lap1 (r.2.2 ++ (P (r.2.1 + 1)).2.2) ((-7))
              refine j_if_eq (b := 0) (tgt := 90) hc dX5_readsSum_83 (by decide) ⟨by omega, by omega⟩ (fun zc6 => ?_) (fun zc6 => ?_)
              · exact absurd zc6 (by decide)
              · refine j_iconst hc dX5_readsSum_86 ?_
                refine j_goto (tgt := 91) hc dX5_readsSum_87 (by decide) ?_
                refine j_istore_n (L' := [_, _, _, _, _]) hc dX5_readsSum_91 (Nat.le_of_ble_eq_true rfl) rfl ?_
                refine j_aload_n hc dX5_readsSum_92 rfl ?_
                refine j_callU (d' := d - 1) hc dX5_readsSum_93 uX5_44_c4 zg53.1.1 (ev_X3_skipBlanks_c4 (b := b) (n := n) (by omega) zg53.1.1 (TpA.rr zg53.2 zT) hT (by omega) (by omega)) rfl (by omega) (by omega) (by omega) rfl rfl (Nat.le_of_ble_eq_true rfl) (retN fun zq93 zp93 => ?_)
                have zg54 := RrG.q9 zg53 zp93.1 zp93.2
                obtain ⟨zs551, zs552, zs553⟩ := skS_b b n (P (r.2.1 + 1)).2.1
                have zs552 := zs552 (by omega)
                have zs55h := hrS_b hb (skS b n (P (r.2.1 + 1)).2.1)
                refine j_iinc (L' := [_, _, _, _, _]) hc dX5_readsSum_96 rfl (Nat.le_of_ble_eq_true rfl) rfl ?_
                refine j_goto (tgt := 12) hc dX5_readsSum_99 (by decide) ?_
                exact ih _ (by omega) (x + 1) (rpT (P (r.2.1 + 1)) fun j t => (-1, skS b n j, r.2.2 ++ t ++ [if hrS b n r.2.1 = 43 then -6 else -7])) _ _ _ rfl (by omega) (((hg (r.2.1 + 1) (by omega) (by omega)).mono (by omega)).t fun zq => by
                    have zy1 := (hg (r.2.1 + 1) (by omega) (by omega)).2.2 zq
                    obtain ⟨zy2, zy3, -⟩ := skS_b b n (P (r.2.1 + 1)).2.1
                    have zy3 := zy3 zy1.2.1
                    exact ⟨by simp, by show (-1 : Int) ≤ n; omega, fun _ => by simp only [List.length_append, List.length_cons, List.length_nil]; omega⟩) (RrG.fin zg54 (by rw [rpT_ok zu50, if_neg (by omega)]) (by omega) (by omega) (by omega) (by omega)) (by rw [← hst, show 240 - x = (240 - (x + 1)) + 1 by omega]; rw [lpO_go ⟨zu9, by omega⟩])
          · refine j_bipush hc dX5_readsSum_50 (by decide) ?_
            refine j_goto (tgt := 57) hc dX5_readsSum_52 (by decide) ?_
            refine j_istore (L' := [_, _, _, _, _]) hc dX5_readsSum_57 (Nat.le_of_ble_eq_true rfl) rfl ?_
            refine j_aload_n hc dX5_readsSum_59 rfl ?_
            refine j_dup hc dX5_readsSum_60 rfl ?_
            refine j_get hc dX5_readsSum_61 fX5_80 zG1.1.1 rfl ?_
            refine j_iconst hc dX5_readsSum_64 ?_
            refine j_iadd hc dX5_readsSum_65 ?_
            refine j_put (fs' := [_, _, _, _, _]) hc dX5_readsSum_66 pX5_80 zG1.1.1 rfl rfl ?_
            generalize ezh2 : up _ _ _ = zh2
            have zQ_zh2 := (congrFun ezh2 _).symm.trans (up_same _ _ _)
            have zQ10_zh2 := (congrFun ezh2 _).symm.trans ((up_ne (by simp)).trans zG1.1.2)
            have zT_zh2 := (congrFun ezh2 _).symm.trans ((up_ne (by simp)).trans (TpA.rr zG1.2 zT).1)
            have zT2_zh2 := (congrFun ezh2 _).symm.trans ((up_ne (by simp)).trans (TpA.rr zG1.2 zT).2)
            have zg56 := RrG.up9 zG1 ezh2
            refine j_aload_n hc dX5_readsSum_69 rfl ?_
            refine j_iload_n hc dX5_readsSum_70 rfl ?_
            refine j_callV (d' := d - 1) hc dX5_readsSum_71 vX5_86 zg56.1.1 (hP (d - 1) _ (r.2.1 + 1) _ _ (by omega) zg56.1 (TpA.rr zg56.2 zT) (by omega) (by omega) (by omega) (by omega)) rfl (by omega) (by omega) (by omega) rfl rfl (Nat.le_of_ble_eq_true rfl) (retE fun zv71 zq71 zp71 => ?_)
            have zp57 : RrP (P (r.2.1 + 1)) n _ _ _ _ _ := zp71
            have zvzp57 := RrP.val zp57
            subst zvzp57
            refine j_if_eq (b := 0) (tgt := 90) hc dX5_readsSum_74 (by decide) (by split <;> exact ⟨by omega, by omega⟩) (fun zc7 => ?_) (fun zc7 => ?_)
            · have zu58 : ¬ (P (r.2.1 + 1)).1 = -1 := one_neg zc7
              have zx59 := RrG.bad zg56 zp57
              refine j_iconst hc dX5_readsSum_90 ?_
              refine j_istore_n (L' := [_, _, _, _, _]) hc dX5_readsSum_91 (Nat.le_of_ble_eq_true rfl) rfl ?_
              refine j_aload_n hc dX5_readsSum_92 rfl ?_
              obtain ⟨⟨zizx59, zkzx59, zfzx59, zozx59, zazx59, zbzx59, zczx59, zdzx59⟩, zezx59⟩ := id zx59
              refine j_callU (d' := d - 1) hc dX5_readsSum_93 uX5_44_c4 zozx59.1 (ev_X3_skipBlanks_c4 (b := b) (n := n) (by omega) zozx59.1 (TpA.rr zezx59 zT) hT (by omega) (by omega)) rfl (by omega) (by omega) (by omega) rfl rfl (Nat.le_of_ble_eq_true rfl) (retN fun zq93 zp93 => ?_)
              have zx60 := RrB.sk zozx59 zazx59 zbzx59 zczx59 zdzx59 zezx59 zp93.1 zp93.2
              refine j_iinc (L' := [_, _, _, _, _]) hc dX5_readsSum_96 rfl (Nat.le_of_ble_eq_true rfl) rfl ?_
              refine j_goto (tgt := 12) hc dX5_readsSum_99 (by decide) ?_
              exact ih _ (by omega) (x + 1) (rpT (P (r.2.1 + 1)) fun j t => (-1, skS b n j, r.2.2 ++ t ++ [if hrS b n r.2.1 = 43 then -6 else -7])) _ _ _ rfl (by omega) (((hg (r.2.1 + 1) (by omega) (by omega)).mono (by omega)).t fun zq => by
                  have zy1 := (hg (r.2.1 + 1) (by omega) (by omega)).2.2 zq
                  obtain ⟨zy2, zy3, -⟩ := skS_b b n (P (r.2.1 + 1)).2.1
                  have zy3 := zy3 zy1.2.1
                  exact ⟨by simp, by show (-1 : Int) ≤ n; omega, fun _ => by simp only [List.length_append, List.length_cons, List.length_nil]; omega⟩) (RrB.fin zx60 (by rw [rpT_no zu58]; rfl) zu58) (by rw [← hst, show 240 - x = (240 - (x + 1)) + 1 by omega]; rw [lpO_go ⟨zu9, by omega⟩])
            · have zu61 : (P (r.2.1 + 1)).1 = -1 := one_pos zc7
              have zg62 := RrG.seq zg56 zp57 zu61
              have zb63 := (hg (r.2.1 + 1) (by omega) (by omega)).2.2 zu61
              have zlzg62 := lap r.2.2 (P (r.2.1 + 1)).2.2
              refine j_aload_n hc dX5_readsSum_77 rfl ?_
              refine j_iload hc dX5_readsSum_78 rfl ?_
              refine j_callV (d' := d - 1) hc dX5_readsSum_80 vX5_65 zg62.1.1 (ev_X5_writes (n := n) (x := (-6)) (by omega) zg62.1 (by omega) (by omega) rfl (by omega) (by omega)) rfl (by omega) (by omega) (by omega) rfl rfl (Nat.le_of_ble_eq_true rfl) (retE fun zv80 zq80 zp80 => ?_)
              obtain ⟨zvzg64, zg64⟩ := RrG.wr zg62 zp80
              subst zvzg64
              have zlzg64 := lap1 (r.2.2 ++ (P (r.2.1 + 1)).2.2) ((-6))
              refine j_if_eq (b := 0) (tgt := 90) hc dX5_readsSum_83 (by decide) ⟨by omega, by omega⟩ (fun zc8 => ?_) (fun zc8 => ?_)
              · exact absurd zc8 (by decide)
              · refine j_iconst hc dX5_readsSum_86 ?_
                refine j_goto (tgt := 91) hc dX5_readsSum_87 (by decide) ?_
                refine j_istore_n (L' := [_, _, _, _, _]) hc dX5_readsSum_91 (Nat.le_of_ble_eq_true rfl) rfl ?_
                refine j_aload_n hc dX5_readsSum_92 rfl ?_
                refine j_callU (d' := d - 1) hc dX5_readsSum_93 uX5_44_c4 zg64.1.1 (ev_X3_skipBlanks_c4 (b := b) (n := n) (by omega) zg64.1.1 (TpA.rr zg64.2 zT) hT (by omega) (by omega)) rfl (by omega) (by omega) (by omega) rfl rfl (Nat.le_of_ble_eq_true rfl) (retN fun zq93 zp93 => ?_)
                have zg65 := RrG.q9 zg64 zp93.1 zp93.2
                obtain ⟨zs661, zs662, zs663⟩ := skS_b b n (P (r.2.1 + 1)).2.1
                have zs662 := zs662 (by omega)
                have zs66h := hrS_b hb (skS b n (P (r.2.1 + 1)).2.1)
                refine j_iinc (L' := [_, _, _, _, _]) hc dX5_readsSum_96 rfl (Nat.le_of_ble_eq_true rfl) rfl ?_
                refine j_goto (tgt := 12) hc dX5_readsSum_99 (by decide) ?_
                exact ih _ (by omega) (x + 1) (rpT (P (r.2.1 + 1)) fun j t => (-1, skS b n j, r.2.2 ++ t ++ [if hrS b n r.2.1 = 43 then -6 else -7])) _ _ _ rfl (by omega) (((hg (r.2.1 + 1) (by omega) (by omega)).mono (by omega)).t fun zq => by
                    have zy1 := (hg (r.2.1 + 1) (by omega) (by omega)).2.2 zq
                    obtain ⟨zy2, zy3, -⟩ := skS_b b n (P (r.2.1 + 1)).2.1
                    have zy3 := zy3 zy1.2.1
                    exact ⟨by simp, by show (-1 : Int) ≤ n; omega, fun _ => by simp only [List.length_append, List.length_cons, List.length_nil]; omega⟩) (RrG.fin zg65 (by rw [rpT_ok zu61, if_pos (by omega)]) (by omega) (by omega) (by omega) (by omega)) (by rw [← hst, show 240 - x = (240 - (x + 1)) + 1 by omega]; rw [lpO_go ⟨zu9, by omega⟩])
        · refine j_aload_n hc dX5_readsSum_32 rfl ?_
          refine j_callU (d' := d - 1) hc dX5_readsSum_33 uX5_47_c4 zG1.1.1 (ev_X3_here_c4 (b := b) (n := n) (by omega) zG1.1.1 (TpA.rr zG1.2 zT) hT (by omega) (by omega)) rfl (by omega) (by omega) (by omega) rfl rfl (Nat.le_of_ble_eq_true rfl) (ret1 ?_)
          refine j_bipush hc dX5_readsSum_36 (by decide) ?_
          refine j_icmp_ne (tgt := 102) hc dX5_readsSum_38 (by decide) ⟨by omega, by omega⟩ ⟨by omega, by omega⟩ (fun zc9 => ?_) (fun zc9 => ?_)
          · refine j_iload_n hc dX5_readsSum_102 rfl ?_
            exact j_zret hc he dX5_readsSum_103 rfl (by omega) (by omega) (by split <;> first | exact Or.inr rfl | exact Or.inl rfl) ⟨_, rfl, by rw [← hst, lpO_stop (fun zq => by first | exact zu9 zq.1 | (have := zq.2; omega))]; exact hr⟩
          · have zlt : r.2.1 < n := hrS_lt (b := b) (by omega) (by omega)
            refine j_aload_n hc dX5_readsSum_41 rfl ?_
            refine j_callU (d' := d - 1) hc dX5_readsSum_42 uX5_47_c4 zG1.1.1 (ev_X3_here_c4 (b := b) (n := n) (by omega) zG1.1.1 (TpA.rr zG1.2 zT) hT (by omega) (by omega)) rfl (by omega) (by omega) (by omega) rfl rfl (Nat.le_of_ble_eq_true rfl) (ret1 ?_)
            refine j_bipush hc dX5_readsSum_45 (by decide) ?_
            refine j_icmp_ne (tgt := 55) hc dX5_readsSum_47 (by decide) ⟨by omega, by omega⟩ ⟨by omega, by omega⟩ (fun zc10 => ?_) (fun zc10 => ?_)
            · refine j_bipush hc dX5_readsSum_55 (by decide) ?_
              refine j_istore (L' := [_, _, _, _, _]) hc dX5_readsSum_57 (Nat.le_of_ble_eq_true rfl) rfl ?_
              refine j_aload_n hc dX5_readsSum_59 rfl ?_
              refine j_dup hc dX5_readsSum_60 rfl ?_
              refine j_get hc dX5_readsSum_61 fX5_80 zG1.1.1 rfl ?_
              refine j_iconst hc dX5_readsSum_64 ?_
              refine j_iadd hc dX5_readsSum_65 ?_
              refine j_put (fs' := [_, _, _, _, _]) hc dX5_readsSum_66 pX5_80 zG1.1.1 rfl rfl ?_
              generalize ezh3 : up _ _ _ = zh3
              have zQ_zh3 := (congrFun ezh3 _).symm.trans (up_same _ _ _)
              have zQ10_zh3 := (congrFun ezh3 _).symm.trans ((up_ne (by simp)).trans zG1.1.2)
              have zT_zh3 := (congrFun ezh3 _).symm.trans ((up_ne (by simp)).trans (TpA.rr zG1.2 zT).1)
              have zT2_zh3 := (congrFun ezh3 _).symm.trans ((up_ne (by simp)).trans (TpA.rr zG1.2 zT).2)
              have zg67 := RrG.up9 zG1 ezh3
              refine j_aload_n hc dX5_readsSum_69 rfl ?_
              refine j_iload_n hc dX5_readsSum_70 rfl ?_
              refine j_callV (d' := d - 1) hc dX5_readsSum_71 vX5_86 zg67.1.1 (hP (d - 1) _ (r.2.1 + 1) _ _ (by omega) zg67.1 (TpA.rr zg67.2 zT) (by omega) (by omega) (by omega) (by omega)) rfl (by omega) (by omega) (by omega) rfl rfl (Nat.le_of_ble_eq_true rfl) (retE fun zv71 zq71 zp71 => ?_)
              have zp68 : RrP (P (r.2.1 + 1)) n _ _ _ _ _ := zp71
              have zvzp68 := RrP.val zp68
              subst zvzp68
              refine j_if_eq (b := 0) (tgt := 90) hc dX5_readsSum_74 (by decide) (by split <;> exact ⟨by omega, by omega⟩) (fun zc11 => ?_) (fun zc11 => ?_)
              · have zu69 : ¬ (P (r.2.1 + 1)).1 = -1 := one_neg zc11
                have zx70 := RrG.bad zg67 zp68
                refine j_iconst hc dX5_readsSum_90 ?_
                refine j_istore_n (L' := [_, _, _, _, _]) hc dX5_readsSum_91 (Nat.le_of_ble_eq_true rfl) rfl ?_
                refine j_aload_n hc dX5_readsSum_92 rfl ?_
                obtain ⟨⟨zizx70, zkzx70, zfzx70, zozx70, zazx70, zbzx70, zczx70, zdzx70⟩, zezx70⟩ := id zx70
                refine j_callU (d' := d - 1) hc dX5_readsSum_93 uX5_44_c4 zozx70.1 (ev_X3_skipBlanks_c4 (b := b) (n := n) (by omega) zozx70.1 (TpA.rr zezx70 zT) hT (by omega) (by omega)) rfl (by omega) (by omega) (by omega) rfl rfl (Nat.le_of_ble_eq_true rfl) (retN fun zq93 zp93 => ?_)
                have zx71 := RrB.sk zozx70 zazx70 zbzx70 zczx70 zdzx70 zezx70 zp93.1 zp93.2
                refine j_iinc (L' := [_, _, _, _, _]) hc dX5_readsSum_96 rfl (Nat.le_of_ble_eq_true rfl) rfl ?_
                refine j_goto (tgt := 12) hc dX5_readsSum_99 (by decide) ?_
                exact ih _ (by omega) (x + 1) (rpT (P (r.2.1 + 1)) fun j t => (-1, skS b n j, r.2.2 ++ t ++ [if hrS b n r.2.1 = 43 then -6 else -7])) _ _ _ rfl (by omega) (((hg (r.2.1 + 1) (by omega) (by omega)).mono (by omega)).t fun zq => by
                    have zy1 := (hg (r.2.1 + 1) (by omega) (by omega)).2.2 zq
                    obtain ⟨zy2, zy3, -⟩ := skS_b b n (P (r.2.1 + 1)).2.1
                    have zy3 := zy3 zy1.2.1
                    exact ⟨by simp, by show (-1 : Int) ≤ n; omega, fun _ => by simp only [List.length_append, List.length_cons, List.length_nil]; omega⟩) (RrB.fin zx71 (by rw [rpT_no zu69]; rfl) zu69) (by rw [← hst, show 240 - x = (240 - (x + 1)) + 1 by omega]; rw [lpO_go ⟨zu9, by omega⟩])
              · have zu72 : (P (r.2.1 + 1)).1 = -1 := one_pos zc11
                have zg73 := RrG.seq zg67 zp68 zu72
                have zb74 := (hg (r.2.1 + 1) (by omega) (by omega)).2.2 zu72
                have zlzg73 := lap r.2.2 (P (r.2.1 + 1)).2.2
                refine j_aload_n hc dX5_readsSum_77 rfl ?_
                refine j_iload hc dX5_readsSum_78 rfl ?_
                refine j_callV (d' := d - 1) hc dX5_readsSum_80 vX5_65 zg73.1.1 (ev_X5_writes (n := n) (x := (-7)) (by omega) zg73.1 (by omega) (by omega) rfl (by omega) (by omega)) rfl (by omega) (by omega) (by omega) rfl rfl (Nat.le_of_ble_eq_true rfl) (retE fun zv80 zq80 zp80 => ?_)
                obtain ⟨zvzg75, zg75⟩ := RrG.wr zg73 zp80
                subst zvzg75
                have zlzg75 := lap1 (r.2.2 ++ (P (r.2.1 + 1)).2.2) ((-7))
                refine j_if_eq (b := 0) (tgt := 90) hc dX5_readsSum_83 (by decide) ⟨by omega, by omega⟩ (fun zc12 => ?_) (fun zc12 => ?_)
                · exact absurd zc12 (by decide)
                · refine j_iconst hc dX5_readsSum_86 ?_
                  refine j_goto (tgt := 91) hc dX5_readsSum_87 (by decide) ?_
                  refine j_istore_n (L' := [_, _, _, _, _]) hc dX5_readsSum_91 (Nat.le_of_ble_eq_true rfl) rfl ?_
                  refine j_aload_n hc dX5_readsSum_92 rfl ?_
                  refine j_callU (d' := d - 1) hc dX5_readsSum_93 uX5_44_c4 zg75.1.1 (ev_X3_skipBlanks_c4 (b := b) (n := n) (by omega) zg75.1.1 (TpA.rr zg75.2 zT) hT (by omega) (by omega)) rfl (by omega) (by omega) (by omega) rfl rfl (Nat.le_of_ble_eq_true rfl) (retN fun zq93 zp93 => ?_)
                  have zg76 := RrG.q9 zg75 zp93.1 zp93.2
                  obtain ⟨zs771, zs772, zs773⟩ := skS_b b n (P (r.2.1 + 1)).2.1
                  have zs772 := zs772 (by omega)
                  have zs77h := hrS_b hb (skS b n (P (r.2.1 + 1)).2.1)
                  refine j_iinc (L' := [_, _, _, _, _]) hc dX5_readsSum_96 rfl (Nat.le_of_ble_eq_true rfl) rfl ?_
                  refine j_goto (tgt := 12) hc dX5_readsSum_99 (by decide) ?_
                  exact ih _ (by omega) (x + 1) (rpT (P (r.2.1 + 1)) fun j t => (-1, skS b n j, r.2.2 ++ t ++ [if hrS b n r.2.1 = 43 then -6 else -7])) _ _ _ rfl (by omega) (((hg (r.2.1 + 1) (by omega) (by omega)).mono (by omega)).t fun zq => by
                      have zy1 := (hg (r.2.1 + 1) (by omega) (by omega)).2.2 zq
                      obtain ⟨zy2, zy3, -⟩ := skS_b b n (P (r.2.1 + 1)).2.1
                      have zy3 := zy3 zy1.2.1
                      exact ⟨by simp, by show (-1 : Int) ≤ n; omega, fun _ => by simp only [List.length_append, List.length_cons, List.length_nil]; omega⟩) (RrG.fin zg76 (by rw [rpT_ok zu72, if_neg (by omega)]) (by omega) (by omega) (by omega) (by omega)) (by rw [← hst, show 240 - x = (240 - (x + 1)) + 1 by omega]; rw [lpO_go ⟨zu9, by omega⟩])
            · refine j_bipush hc dX5_readsSum_50 (by decide) ?_
              refine j_goto (tgt := 57) hc dX5_readsSum_52 (by decide) ?_
              refine j_istore (L' := [_, _, _, _, _]) hc dX5_readsSum_57 (Nat.le_of_ble_eq_true rfl) rfl ?_
              refine j_aload_n hc dX5_readsSum_59 rfl ?_
              refine j_dup hc dX5_readsSum_60 rfl ?_
              refine j_get hc dX5_readsSum_61 fX5_80 zG1.1.1 rfl ?_
              refine j_iconst hc dX5_readsSum_64 ?_
              refine j_iadd hc dX5_readsSum_65 ?_
              refine j_put (fs' := [_, _, _, _, _]) hc dX5_readsSum_66 pX5_80 zG1.1.1 rfl rfl ?_
              generalize ezh4 : up _ _ _ = zh4
              have zQ_zh4 := (congrFun ezh4 _).symm.trans (up_same _ _ _)
              have zQ10_zh4 := (congrFun ezh4 _).symm.trans ((up_ne (by simp)).trans zG1.1.2)
              have zT_zh4 := (congrFun ezh4 _).symm.trans ((up_ne (by simp)).trans (TpA.rr zG1.2 zT).1)
              have zT2_zh4 := (congrFun ezh4 _).symm.trans ((up_ne (by simp)).trans (TpA.rr zG1.2 zT).2)
              have zg78 := RrG.up9 zG1 ezh4
              refine j_aload_n hc dX5_readsSum_69 rfl ?_
              refine j_iload_n hc dX5_readsSum_70 rfl ?_
              refine j_callV (d' := d - 1) hc dX5_readsSum_71 vX5_86 zg78.1.1 (hP (d - 1) _ (r.2.1 + 1) _ _ (by omega) zg78.1 (TpA.rr zg78.2 zT) (by omega) (by omega) (by omega) (by omega)) rfl (by omega) (by omega) (by omega) rfl rfl (Nat.le_of_ble_eq_true rfl) (retE fun zv71 zq71 zp71 => ?_)
              have zp79 : RrP (P (r.2.1 + 1)) n _ _ _ _ _ := zp71
              have zvzp79 := RrP.val zp79
              subst zvzp79
              refine j_if_eq (b := 0) (tgt := 90) hc dX5_readsSum_74 (by decide) (by split <;> exact ⟨by omega, by omega⟩) (fun zc13 => ?_) (fun zc13 => ?_)
              · have zu80 : ¬ (P (r.2.1 + 1)).1 = -1 := one_neg zc13
                have zx81 := RrG.bad zg78 zp79
                refine j_iconst hc dX5_readsSum_90 ?_
                refine j_istore_n (L' := [_, _, _, _, _]) hc dX5_readsSum_91 (Nat.le_of_ble_eq_true rfl) rfl ?_
                refine j_aload_n hc dX5_readsSum_92 rfl ?_
                obtain ⟨⟨zizx81, zkzx81, zfzx81, zozx81, zazx81, zbzx81, zczx81, zdzx81⟩, zezx81⟩ := id zx81
                refine j_callU (d' := d - 1) hc dX5_readsSum_93 uX5_44_c4 zozx81.1 (ev_X3_skipBlanks_c4 (b := b) (n := n) (by omega) zozx81.1 (TpA.rr zezx81 zT) hT (by omega) (by omega)) rfl (by omega) (by omega) (by omega) rfl rfl (Nat.le_of_ble_eq_true rfl) (retN fun zq93 zp93 => ?_)
                have zx82 := RrB.sk zozx81 zazx81 zbzx81 zczx81 zdzx81 zezx81 zp93.1 zp93.2
                refine j_iinc (L' := [_, _, _, _, _]) hc dX5_readsSum_96 rfl (Nat.le_of_ble_eq_true rfl) rfl ?_
                refine j_goto (tgt := 12) hc dX5_readsSum_99 (by decide) ?_
                exact ih _ (by omega) (x + 1) (rpT (P (r.2.1 + 1)) fun j t => (-1, skS b n j, r.2.2 ++ t ++ [if hrS b n r.2.1 = 43 then -6 else -7])) _ _ _ rfl (by omega) (((hg (r.2.1 + 1) (by omega) (by omega)).mono (by omega)).t fun zq => by
                    have zy1 := (hg (r.2.1 + 1) (by omega) (by omega)).2.2 zq
                    obtain ⟨zy2, zy3, -⟩ := skS_b b n (P (r.2.1 + 1)).2.1
                    have zy3 := zy3 zy1.2.1
                    exact ⟨by simp, by show (-1 : Int) ≤ n; omega, fun _ => by simp only [List.length_append, List.length_cons, List.length_nil]; omega⟩) (RrB.fin zx82 (by rw [rpT_no zu80]; rfl) zu80) (by rw [← hst, show 240 - x = (240 - (x + 1)) + 1 by omega]; rw [lpO_go ⟨zu9, by omega⟩])
              · have zu83 : (P (r.2.1 + 1)).1 = -1 := one_pos zc13
                have zg84 := RrG.seq zg78 zp79 zu83
                have zb85 := (hg (r.2.1 + 1) (by omega) (by omega)).2.2 zu83
                have zlzg84 := lap r.2.2 (P (r.2.1 + 1)).2.2
                refine j_aload_n hc dX5_readsSum_77 rfl ?_
                refine j_iload hc dX5_readsSum_78 rfl ?_
                refine j_callV (d' := d - 1) hc dX5_readsSum_80 vX5_65 zg84.1.1 (ev_X5_writes (n := n) (x := (-6)) (by omega) zg84.1 (by omega) (by omega) rfl (by omega) (by omega)) rfl (by omega) (by omega) (by omega) rfl rfl (Nat.le_of_ble_eq_true rfl) (retE fun zv80 zq80 zp80 => ?_)
                obtain ⟨zvzg86, zg86⟩ := RrG.wr zg84 zp80
                subst zvzg86
                have zlzg86 := lap1 (r.2.2 ++ (P (r.2.1 + 1)).2.2) ((-6))
                refine j_if_eq (b := 0) (tgt := 90) hc dX5_readsSum_83 (by decide) ⟨by omega, by omega⟩ (fun zc14 => ?_) (fun zc14 => ?_)
                · exact absurd zc14 (by decide)
                · refine j_iconst hc dX5_readsSum_86 ?_
                  refine j_goto (tgt := 91) hc dX5_readsSum_87 (by decide) ?_
                  refine j_istore_n (L' := [_, _, _, _, _]) hc dX5_readsSum_91 (Nat.le_of_ble_eq_true rfl) rfl ?_
                  refine j_aload_n hc dX5_readsSum_92 rfl ?_
                  refine j_callU (d' := d - 1) hc dX5_readsSum_93 uX5_44_c4 zg86.1.1 (ev_X3_skipBlanks_c4 (b := b) (n := n) (by omega) zg86.1.1 (TpA.rr zg86.2 zT) hT (by omega) (by omega)) rfl (by omega) (by omega) (by omega) rfl rfl (Nat.le_of_ble_eq_true rfl) (retN fun zq93 zp93 => ?_)
                  have zg87 := RrG.q9 zg86 zp93.1 zp93.2
                  obtain ⟨zs881, zs882, zs883⟩ := skS_b b n (P (r.2.1 + 1)).2.1
                  have zs882 := zs882 (by omega)
                  have zs88h := hrS_b hb (skS b n (P (r.2.1 + 1)).2.1)
                  refine j_iinc (L' := [_, _, _, _, _]) hc dX5_readsSum_96 rfl (Nat.le_of_ble_eq_true rfl) rfl ?_
                  refine j_goto (tgt := 12) hc dX5_readsSum_99 (by decide) ?_
                  exact ih _ (by omega) (x + 1) (rpT (P (r.2.1 + 1)) fun j t => (-1, skS b n j, r.2.2 ++ t ++ [if hrS b n r.2.1 = 43 then -6 else -7])) _ _ _ rfl (by omega) (((hg (r.2.1 + 1) (by omega) (by omega)).mono (by omega)).t fun zq => by
                      have zy1 := (hg (r.2.1 + 1) (by omega) (by omega)).2.2 zq
                      obtain ⟨zy2, zy3, -⟩ := skS_b b n (P (r.2.1 + 1)).2.1
                      have zy3 := zy3 zy1.2.1
                      exact ⟨by simp, by show (-1 : Int) ≤ n; omega, fun _ => by simp only [List.length_append, List.length_cons, List.length_nil]; omega⟩) (RrG.fin zg87 (by rw [rpT_ok zu83, if_pos (by omega)]) (by omega) (by omega) (by omega) (by omega)) (by rw [← hst, show 240 - x = (240 - (x + 1)) + 1 by omega]; rw [lpO_go ⟨zu9, by omega⟩])
set_option maxRecDepth 100000 in
set_option maxHeartbeats 4000000 in
theorem nt_X5_readsSum {k : WC} {b : Int → Int} {n dp : Int} {c : Nat} {P : Int → RP} (hT : TpOK b n) (hg : GdP n P) (hP : NtE k mdX5_readsTerm b n dp c P) : NtE k mdX5_readsSum b n dp (c + 2) (smG b n P) := by
  intro d h i cl cf hd zO zT hi0 hi1 hc0 hc1
  obtain ⟨hn0, hn1, hb⟩ := id hT
  have zG0 := RrG.st zO
  have zl0 : (([] : List Int).length : Int) = 0 := rfl
  refine Ev.mk (by decide +kernel) [_, _, _, _, _] rfl (Nat.le_of_ble_eq_true rfl) (fun w hc he => ?_)
  refine j_aload_n hc dX5_readsSum_0 rfl ?_
  refine j_iload_n hc dX5_readsSum_1 rfl ?_
  refine j_callV (d' := d - 1) hc dX5_readsSum_2 vX5_86 zG0.1.1 (hP (d - 1) _ i _ _ (by omega) zO zT (by omega) (by omega) (by omega) (by omega)) rfl (by omega) (by omega) (by omega) rfl rfl (Nat.le_of_ble_eq_true rfl) (retE fun zv2 zq2 zp2 => ?_)
  have zp0 := zp2
  have zvp0 := RrP.val zp0
  subst zvp0
  refine j_istore_n (L' := [_, _, _, _, _]) hc dX5_readsSum_5 (Nat.le_of_ble_eq_true rfl) rfl ?_
  refine j_aload_n hc dX5_readsSum_6 rfl ?_
  obtain ⟨zi9, zj9, zf9, zv9, zo9, zk9, za9, zb9, zc9, zd9, ze9⟩ := id zp0
  refine j_callU (d' := d - 1) hc dX5_readsSum_7 uX5_44_c4 zo9.1 (ev_X3_skipBlanks_c4 (b := b) (n := n) (by omega) zo9.1 (TpA.rr ze9 zT) hT (by omega) (by omega)) rfl (by omega) (by omega) (by omega) rfl rfl (Nat.le_of_ble_eq_true rfl) (retN fun zq7 zp7 => ?_)
  have zS := RrP.sk zb9 zo9 zk9 za9 zc9 zd9 ze9 zp7.1 zp7.2
  refine j_iconst hc dX5_readsSum_10 ?_
  refine j_istore_n (L' := [_, _, _, _, _]) hc dX5_readsSum_11 (Nat.le_of_ble_eq_true rfl) rfl ?_
  exact lp_X5_readsSum hT hg hP (by omega) (by omega) zT hi0 hc0 hc1 hc he _ 0 _ _ _ _ rfl (by omega) (((hg i hi0 hi1)).t fun zq => by
      have zy1 := (hg i hi0 hi1).2.2 zq
      obtain ⟨zy2, zy3, -⟩ := skS_b b n (P i).2.1
      have zy3 := zy3 zy1.2.1
      exact ⟨by simp, by show (-1 : Int) ≤ n; omega, fun _ => by simp only; omega⟩) zS rfl
set_option maxRecDepth 100000 in
set_option maxHeartbeats 4000000 in
theorem nt_cmp {k : WC} {b : Int → Int} {n dp : Int} {c : Nat} {S : Int → RP} (hT : TpOK b n) (hg : GdP n S) (hS : NtE k mdX5_readsSum b n dp c S) : NtE k mdX5_readsComparison b n dp (c + 3) (cmG b n S) := by
  intro d h i cl cf hd zO zT hi0 hi1 hc0 hc1
  obtain ⟨hn0, hn1, hb⟩ := id hT
  have zG0 := RrG.st zO
  have zl0 : (([] : List Int).length : Int) = 0 := rfl
  refine Ev.mk (by decide +kernel) [_, _, _, _] rfl (Nat.le_of_ble_eq_true rfl) (fun w hc he => ?_)
  refine j_aload_n hc dX5_readsComparison_0 rfl ?_
  refine j_callV (d' := d - 1) hc dX5_readsComparison_1 vX5_60 zG0.1.1 (ev_X5_isAtComparison (b := b) (n := n) (by omega) zG0.1 (TpA.rr zG0.2 zT) hT (by omega) (by omega) (by omega) (by omega)) rfl (by omega) (by omega) (by omega) rfl rfl (Nat.le_of_ble_eq_true rfl) (retE fun zv1 zq1 zp1 => ?_)
  obtain ⟨zvzg89, zozg89, zezg89⟩ := zp1
  subst zvzg89
  have zg89 : RrG (skS b n i) [] cl cf h _ := ⟨zozg89, zG0.2.tr zezg89⟩
  obtain ⟨zs901, zs902, zs903⟩ := skS_b b n i
  have zs902 := zs902 (by omega)
  have zs90h := hrS_b hb (skS b n i)
  refine j_if_ne (b := 0) (tgt := 16) hc dX5_readsComparison_4 (by decide) (by split <;> exact ⟨by omega, by omega⟩) (fun zc1 => ?_) (fun zc1 => ?_)
  · have zcm : isCm (hrS b n (skS b n i)) := one_pos zc1
    have zlt : skS b n i < n := hrS_lt (b := b) (by omega) (by omega)
    refine j_aload_n hc dX5_readsComparison_16 rfl ?_
    refine j_callU (d' := d - 1) hc dX5_readsComparison_17 uX5_47_c4 zg89.1.1 (ev_X3_here_c4 (b := b) (n := n) (by omega) zg89.1.1 (TpA.rr zg89.2 zT) hT (by omega) (by omega)) rfl (by omega) (by omega) (by omega) rfl rfl (Nat.le_of_ble_eq_true rfl) (ret1 ?_)
    refine j_istore_n (L' := [_, _, _, _]) hc dX5_readsComparison_20 (Nat.le_of_ble_eq_true rfl) rfl ?_
    refine j_aload_n hc dX5_readsComparison_21 rfl ?_
    refine j_dup hc dX5_readsComparison_22 rfl ?_
    refine j_get hc dX5_readsComparison_23 fX5_80 zg89.1.1 rfl ?_
    refine j_iconst hc dX5_readsComparison_26 ?_
    refine j_iadd hc dX5_readsComparison_27 ?_
    refine j_put (fs' := [_, _, _, _, _]) hc dX5_readsComparison_28 pX5_80 zg89.1.1 rfl rfl ?_
    generalize ezh1 : up _ _ _ = zh1
    have zQ_zh1 := (congrFun ezh1 _).symm.trans (up_same _ _ _)
    have zQ10_zh1 := (congrFun ezh1 _).symm.trans ((up_ne (by simp)).trans zg89.1.2)
    have zT_zh1 := (congrFun ezh1 _).symm.trans ((up_ne (by simp)).trans (TpA.rr zg89.2 zT).1)
    have zT2_zh1 := (congrFun ezh1 _).symm.trans ((up_ne (by simp)).trans (TpA.rr zg89.2 zT).2)
    have zg91 := RrG.up9 zg89 ezh1
    refine j_iload_n hc dX5_readsComparison_31 rfl ?_
    refine j_bipush hc dX5_readsComparison_32 (by decide) ?_
    refine j_icmp_ne (tgt := 42) hc dX5_readsComparison_34 (by decide) ⟨by omega, by omega⟩ ⟨by omega, by omega⟩ (fun zc2 => ?_) (fun zc2 => ?_)
    · refine j_iload_n hc dX5_readsComparison_42 rfl ?_
      refine j_bipush hc dX5_readsComparison_43 (by decide) ?_
      refine j_icmp_ne (tgt := 53) hc dX5_readsComparison_45 (by decide) ⟨by omega, by omega⟩ ⟨by omega, by omega⟩ (fun zc3 => ?_) (fun zc3 => ?_)
      · refine j_bipush hc dX5_readsComparison_53 (by decide) ?_
        refine j_istore_n (L' := [_, _, _, _]) hc dX5_readsComparison_55 (Nat.le_of_ble_eq_true rfl) rfl ?_
        refine j_aload_n hc dX5_readsComparison_56 rfl ?_
        refine j_iload_n hc dX5_readsComparison_57 rfl ?_
        refine j_callV (d' := d - 1) hc dX5_readsComparison_58 vX5_57 zg91.1.1 (hS (d - 1) _ ((skS b n i) + 1) _ _ (by omega) zg91.1 (TpA.rr zg91.2 zT) (by omega) (by omega) (by omega) (by omega)) rfl (by omega) (by omega) (by omega) rfl rfl (Nat.le_of_ble_eq_true rfl) (retE fun zv58 zq58 zp58 => ?_)
        have zp92 : RrP (S ((skS b n i) + 1)) n _ _ _ _ _ := zp58
        have zvzp92 := RrP.val zp92
        subst zvzp92
        refine j_if_eq (b := 0) (tgt := 76) hc dX5_readsComparison_61 (by decide) (by split <;> exact ⟨by omega, by omega⟩) (fun zc4 => ?_) (fun zc4 => ?_)
        · have zu93 : ¬ (S ((skS b n i) + 1)).1 = -1 := one_neg zc4
          have zx94 := RrG.bad zg91 zp92
          refine j_iconst hc dX5_readsComparison_76 ?_
          exact j_zret hc he dX5_readsComparison_77 rfl (by omega) (by omega) (Or.inl rfl) ⟨_, rfl, RrB.fin zx94 (by unfold cmG; rw [if_pos zcm, rpT_no zu93]; rfl) zu93⟩
        · have zu95 : (S ((skS b n i) + 1)).1 = -1 := one_pos zc4
          have zg96 := RrG.seq zg91 zp92 zu95
          have zb97 := (hg ((skS b n i) + 1) (by omega) (by omega)).2.2 zu95
          have zlzg96 := lap [] (S ((skS b n i) + 1)).2.2
          refine j_aload_n hc dX5_readsComparison_64 rfl ?_
          refine j_iload_n hc dX5_readsComparison_65 rfl ?_
          refine j_callV (d' := d - 1) hc dX5_readsComparison_66 vX5_65 zg96.1.1 (ev_X5_writes (n := n) (x := (-12)) (by omega) zg96.1 (by omega) (by omega) rfl (by omega) (by omega)) rfl (by omega) (by omega) (by omega) rfl rfl (Nat.le_of_ble_eq_true rfl) (retE fun zv66 zq66 zp66 => ?_)
          obtain ⟨zvzg98, zg98⟩ := RrG.wr zg96 zp66
          subst zvzg98
          have zlzg98 := lap1 ([] ++ (S ((skS b n i) + 1)).2.2) ((-12))
          refine j_if_eq (b := 0) (tgt := 76) hc dX5_readsComparison_69 (by decide) ⟨by omega, by omega⟩ (fun zc5 => ?_) (fun zc5 => ?_)
          · exact absurd zc5 (by decide)
          · refine j_iconst hc dX5_readsComparison_72 ?_
            refine j_goto (tgt := 77) hc dX5_readsComparison_73 (by decide) ?_
            exact j_zret hc he dX5_readsComparison_77 rfl (by omega) (by omega) (Or.inr rfl) ⟨_, rfl, RrG.fin zg98 (by unfold cmG; rw [if_pos zcm, rpT_ok zu95]; simp only [List.nil_append]; unfold coP; first | (rw [if_pos (by omega)]; done) | (rw [if_neg (by omega), if_pos (by omega)]; done) | rw [if_neg (by omega), if_neg (by omega)]) (by omega) (by omega) (by omega) (by omega)⟩
      · refine j_bipush hc dX5_readsComparison_48 (by decide) ?_
        refine j_goto (tgt := 55) hc dX5_readsComparison_50 (by decide) ?_
        refine j_istore_n (L' := [_, _, _, _]) hc dX5_readsComparison_55 (Nat.le_of_ble_eq_true rfl) rfl ?_
        refine j_aload_n hc dX5_readsComparison_56 rfl ?_
        refine j_iload_n hc dX5_readsComparison_57 rfl ?_
        refine j_callV (d' := d - 1) hc dX5_readsComparison_58 vX5_57 zg91.1.1 (hS (d - 1) _ ((skS b n i) + 1) _ _ (by omega) zg91.1 (TpA.rr zg91.2 zT) (by omega) (by omega) (by omega) (by omega)) rfl (by omega) (by omega) (by omega) rfl rfl (Nat.le_of_ble_eq_true rfl) (retE fun zv58 zq58 zp58 => ?_)
        have zp99 : RrP (S ((skS b n i) + 1)) n _ _ _ _ _ := zp58
        have zvzp99 := RrP.val zp99
        subst zvzp99
        refine j_if_eq (b := 0) (tgt := 76) hc dX5_readsComparison_61 (by decide) (by split <;> exact ⟨by omega, by omega⟩) (fun zc6 => ?_) (fun zc6 => ?_)
        · have zu100 : ¬ (S ((skS b n i) + 1)).1 = -1 := one_neg zc6
          have zx101 := RrG.bad zg91 zp99
          refine j_iconst hc dX5_readsComparison_76 ?_
          exact j_zret hc he dX5_readsComparison_77 rfl (by omega) (by omega) (Or.inl rfl) ⟨_, rfl, RrB.fin zx101 (by unfold cmG; rw [if_pos zcm, rpT_no zu100]; rfl) zu100⟩
        · have zu102 : (S ((skS b n i) + 1)).1 = -1 := one_pos zc6
          have zg103 := RrG.seq zg91 zp99 zu102
          have zb104 := (hg ((skS b n i) + 1) (by omega) (by omega)).2.2 zu102
          have zlzg103 := lap [] (S ((skS b n i) + 1)).2.2
          refine j_aload_n hc dX5_readsComparison_64 rfl ?_
          refine j_iload_n hc dX5_readsComparison_65 rfl ?_
          refine j_callV (d' := d - 1) hc dX5_readsComparison_66 vX5_65 zg103.1.1 (ev_X5_writes (n := n) (x := (-11)) (by omega) zg103.1 (by omega) (by omega) rfl (by omega) (by omega)) rfl (by omega) (by omega) (by omega) rfl rfl (Nat.le_of_ble_eq_true rfl) (retE fun zv66 zq66 zp66 => ?_)
          obtain ⟨zvzg105, zg105⟩ := RrG.wr zg103 zp66
          subst zvzg105
          have zlzg105 := lap1 ([] ++ (S ((skS b n i) + 1)).2.2) ((-11))
          refine j_if_eq (b := 0) (tgt := 76) hc dX5_readsComparison_69 (by decide) ⟨by omega, by omega⟩ (fun zc7 => ?_) (fun zc7 => ?_)
          · exact absurd zc7 (by decide)
          · refine j_iconst hc dX5_readsComparison_72 ?_
            refine j_goto (tgt := 77) hc dX5_readsComparison_73 (by decide) ?_
            exact j_zret hc he dX5_readsComparison_77 rfl (by omega) (by omega) (Or.inr rfl) ⟨_, rfl, RrG.fin zg105 (by unfold cmG; rw [if_pos zcm, rpT_ok zu102]; simp only [List.nil_append]; unfold coP; first | (rw [if_pos (by omega)]; done) | (rw [if_neg (by omega), if_pos (by omega)]; done) | rw [if_neg (by omega), if_neg (by omega)]) (by omega) (by omega) (by omega) (by omega)⟩
    · refine j_bipush hc dX5_readsComparison_37 (by decide) ?_
      refine j_goto (tgt := 55) hc dX5_readsComparison_39 (by decide) ?_
      refine j_istore_n (L' := [_, _, _, _]) hc dX5_readsComparison_55 (Nat.le_of_ble_eq_true rfl) rfl ?_
      refine j_aload_n hc dX5_readsComparison_56 rfl ?_
      refine j_iload_n hc dX5_readsComparison_57 rfl ?_
      refine j_callV (d' := d - 1) hc dX5_readsComparison_58 vX5_57 zg91.1.1 (hS (d - 1) _ ((skS b n i) + 1) _ _ (by omega) zg91.1 (TpA.rr zg91.2 zT) (by omega) (by omega) (by omega) (by omega)) rfl (by omega) (by omega) (by omega) rfl rfl (Nat.le_of_ble_eq_true rfl) (retE fun zv58 zq58 zp58 => ?_)
      have zp106 : RrP (S ((skS b n i) + 1)) n _ _ _ _ _ := zp58
      have zvzp106 := RrP.val zp106
      subst zvzp106
      refine j_if_eq (b := 0) (tgt := 76) hc dX5_readsComparison_61 (by decide) (by split <;> exact ⟨by omega, by omega⟩) (fun zc8 => ?_) (fun zc8 => ?_)
      · have zu107 : ¬ (S ((skS b n i) + 1)).1 = -1 := one_neg zc8
        have zx108 := RrG.bad zg91 zp106
        refine j_iconst hc dX5_readsComparison_76 ?_
        exact j_zret hc he dX5_readsComparison_77 rfl (by omega) (by omega) (Or.inl rfl) ⟨_, rfl, RrB.fin zx108 (by unfold cmG; rw [if_pos zcm, rpT_no zu107]; rfl) zu107⟩
      · have zu109 : (S ((skS b n i) + 1)).1 = -1 := one_pos zc8
        have zg110 := RrG.seq zg91 zp106 zu109
        have zb111 := (hg ((skS b n i) + 1) (by omega) (by omega)).2.2 zu109
        have zlzg110 := lap [] (S ((skS b n i) + 1)).2.2
        refine j_aload_n hc dX5_readsComparison_64 rfl ?_
        refine j_iload_n hc dX5_readsComparison_65 rfl ?_
        refine j_callV (d' := d - 1) hc dX5_readsComparison_66 vX5_65 zg110.1.1 (ev_X5_writes (n := n) (x := (-10)) (by omega) zg110.1 (by omega) (by omega) rfl (by omega) (by omega)) rfl (by omega) (by omega) (by omega) rfl rfl (Nat.le_of_ble_eq_true rfl) (retE fun zv66 zq66 zp66 => ?_)
        obtain ⟨zvzg112, zg112⟩ := RrG.wr zg110 zp66
        subst zvzg112
        have zlzg112 := lap1 ([] ++ (S ((skS b n i) + 1)).2.2) ((-10))
        refine j_if_eq (b := 0) (tgt := 76) hc dX5_readsComparison_69 (by decide) ⟨by omega, by omega⟩ (fun zc9 => ?_) (fun zc9 => ?_)
        · exact absurd zc9 (by decide)
        · refine j_iconst hc dX5_readsComparison_72 ?_
          refine j_goto (tgt := 77) hc dX5_readsComparison_73 (by decide) ?_
          exact j_zret hc he dX5_readsComparison_77 rfl (by omega) (by omega) (Or.inr rfl) ⟨_, rfl, RrG.fin zg112 (by unfold cmG; rw [if_pos zcm, rpT_ok zu109]; simp only [List.nil_append]; unfold coP; first | (rw [if_pos (by omega)]; done) | (rw [if_neg (by omega), if_pos (by omega)]; done) | rw [if_neg (by omega), if_neg (by omega)]) (by omega) (by omega) (by omega) (by omega)⟩
  · have zcm : ¬ isCm (hrS b n (skS b n i)) := one_neg zc1
    refine j_aload_n hc dX5_readsComparison_7 rfl ?_
    refine j_aload_n hc dX5_readsComparison_8 rfl ?_
    refine j_get hc dX5_readsComparison_9 fX5_80 zg89.1.1 rfl ?_
    refine j_callU (d' := d - 1) hc dX5_readsComparison_12 uX5_83_c4 zg89.1.1 (ev_X3_isWrongAt_c4 (by omega) zg89.1.1) rfl (by omega) (by omega) (by omega) rfl rfl (Nat.le_of_ble_eq_true rfl) (retE fun zv12 zq12 zp12 => ?_)
    obtain ⟨zvzx113, zqzx113, zfzx113⟩ := zp12
    subst zvzx113
    have zx113 : RrB (skS b n i) n h _ := ⟨⟨_, _, _, zg89.1.cl zqzx113 zfzx113, by omega, by omega, by omega, by omega⟩, zg89.2.tr zfzx113.r9⟩
    exact j_zret hc he dX5_readsComparison_15 rfl (by omega) (by omega) (Or.inl rfl) ⟨_, rfl, RrB.fin zx113 (by unfold cmG; rw [if_neg zcm]; rfl) (by omega)⟩
