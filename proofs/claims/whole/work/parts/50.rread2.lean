/-! ===== atoms, terms, sums ===== -/
def NtE (k : WC) (y : MD) (b : Int → Int) (n dp : Int) (c : Nat) (Q : Int → RP) : Prop := ∀ (d : Nat) (h : AH) (i cl : Int) (cf : Int → Int), c ≤ d → RrO h i (-1) cl cf → TpA h b n → 0 ≤ i → i ≤ n → 0 ≤ cl → cl ≤ i → Ev k d y h [vR (9, 0), vI dp] 0 0 (pe fun v h' => RrP (Q i) n cl cf h h' v)
theorem RrP.noT {r : RP} {n cl : Int} {cf : Int → Int} {h h' : AH} {v : AV} (a : RrP r n cl cf h h' v) (ht : r.2.2 = []) : ∃ (i' cl' : Int) (cf' : Int → Int), v = vI (if r.1 = -1 then 1 else 0) ∧ RrO h' i' r.1 cl' cf' ∧ (r.1 = -1 → i' = r.2.1 ∧ cl' = cl ∧ cf' = cf) ∧ 0 ≤ i' ∧ i' ≤ n ∧ 0 ≤ cl' ∧ cl' ≤ 482 ∧ Fr isRr h h' := by
  obtain ⟨i', cl', cf', h1, h2, h3, h4⟩ := a
  refine ⟨i', cl', cf', h1, h2, fun z => ?_, h4⟩
  obtain ⟨e1, e2, e3⟩ := h3 z
  rw [ht] at e2 e3
  exact ⟨e1, by simpa using e2, e3⟩
theorem RrP.wr {i x n cl : Int} {cf : Int → Int} {h h' : AH} {v : AV} (a : RrP (-1, i, [x]) n cl cf h h' v) : v = vI 1 ∧ RrO h' i (-1) (cl + 1) (fu cf cl x) ∧ Fr isRr h h' := by
  obtain ⟨i', cl', cf', h1, h2, h3, h4, h5, h6, h7, h8⟩ := a
  obtain ⟨e1, e2, e3⟩ := h3 rfl
  subst e1 e2 e3
  exact ⟨by rw [h1, if_pos rfl], h2, h8⟩
theorem neS_t (b : Int → Int) (n c i : Int) : (neS b n c i).2.2 = [] := by unfold neS; split <;> rfl
theorem gd_t (dp i : Int) : (if dp < 6 then ((-1, i + 1, []) : RP) else rpF i).2.2 = [] := by split <;> rfl
theorem rpF_1 (f : Int) : (rpF f).1 = f := rfl
theorem brS_no {b : Int → Int} {n c : Int} {a : RP} (h : a.1 ≠ -1) : (brS b n c a).1 = a.1 := by unfold brS; rw [rpT_no h]; rfl
theorem brS_no2 {b : Int → Int} {n c : Int} {a : RP} (h : a.1 = -1) (h2 : (neS b n c a.2.1).1 ≠ -1) : (brS b n c a).1 = (neS b n c a.2.1).1 := by unfold brS; rw [rpT_ok h, rpT_no h2]; rfl
theorem brS_ok {b : Int → Int} {n c : Int} {a : RP} (h : a.1 = -1) (h2 : (neS b n c a.2.1).1 = -1) : brS b n c a = (-1, (neS b n c a.2.1).2.1, a.2.2) := by unfold brS; rw [rpT_ok h, rpT_ok h2]
theorem wrL_sn {cf : Int → Int} {cl x : Int} {t : List Int} : fu (wrL cf cl t) (cl + t.length) x = wrL cf cl (t ++ [x]) := by rw [wrL_app]; rfl
set_option maxRecDepth 100000 in
set_option maxHeartbeats 4000000 in
theorem nt_atom {k : WC} {b : Int → Int} {n dp : Int} {c : Nat} {sm : Option (Int → RP)} (hT : TpOK b n) (hdp0 : 0 ≤ dp) (hdp1 : dp ≤ 6) (h6 : sm = none → dp = 6) (hs : ∀ s, sm = some s → dp < 6 ∧ GdP n s ∧ NtE k mdX5_readsSum b n (dp + 1) c s) : NtE k mdX5_readsAtom b n dp (c + 3) (atG b n sm) := by
  intro d h i cl cf hd zO zT hi0 hi1 hc0 hc1
  obtain ⟨hn0, hn1, hb⟩ := id hT
  obtain ⟨zs1, zs2, zs3⟩ := skS_b b n i
  have zs2 := zs2 hi1
  have zh1 := hrS_b hb (skS b n i)
  have zlcs : -5 ≤ lcS (hrS b n (skS b n i)) ∧ lcS (hrS b n (skS b n i)) ≤ 0 := by
    unfold lcS
    repeat (first | omega | split)
  refine Ev.mk (by decide +kernel) [_, _, _] rfl (Nat.le_of_ble_eq_true rfl) (fun w hc he => ?_)
  refine j_aload_n hc dX5_readsAtom_0 rfl ?_
  refine j_callU (d' := d - 1) hc dX5_readsAtom_1 uX5_44_c4 zO.1 (ev_X3_skipBlanks_c4 (by omega) zO.1 ⟨zT.1, zT.2⟩ hT (by omega) (by omega)) rfl (by omega) (by omega) (by omega) rfl rfl (Nat.le_of_ble_eq_true rfl) (retN fun zq1 zp1 => ?_)
  obtain ⟨zQ1, zF1⟩ := zp1
  have zQ10_q1 := (zF1 _ (by first | (simp; done) | (simp; omega))).trans zO.2
  have zT_q1 := (zF1 _ (by first | (simp; done) | (simp; omega))).trans zT.1
  have zT2_q1 := (zF1 _ (by first | (simp; done) | (simp; omega))).trans zT.2
  refine j_aload_n hc dX5_readsAtom_4 rfl ?_
  refine j_callU (d' := d - 1) hc dX5_readsAtom_5 uX5_47_c4 zQ1 (ev_X3_here_c4 (by omega) zQ1 ⟨zT_q1, zT2_q1⟩ hT (by omega) (by omega)) rfl (by omega) (by omega) (by omega) rfl rfl (Nat.le_of_ble_eq_true rfl) (ret1 ?_)
  refine j_callSU (d' := d - 1) hc dX5_readsAtom_8 qX5_92 rfl (ev_X3_isDigit (by omega) ⟨by omega, by omega⟩) rfl (by omega) (by omega) (by omega) rfl rfl (Nat.le_of_ble_eq_true rfl) (ret1 ?_)
  refine j_if_eq (b := 0) (tgt := 19) hc dX5_readsAtom_11 (by decide) (by split <;> exact ⟨by omega, by omega⟩) (fun zc1 => ?_) (fun zc1 => ?_)
  · have zd1 : ¬ dgS (hrS b n (skS b n i)) := one_neg zc1
    refine j_aload_n hc dX5_readsAtom_19 rfl ?_
    refine j_callU (d' := d - 1) hc dX5_readsAtom_20 uX5_47_c4 zQ1 (ev_X3_here_c4 (by omega) zQ1 ⟨zT_q1, zT2_q1⟩ hT (by omega) (by omega)) rfl (by omega) (by omega) (by omega) rfl rfl (Nat.le_of_ble_eq_true rfl) (ret1 ?_)
    refine j_bipush hc dX5_readsAtom_23 (by decide) ?_
    refine j_icmp_ne (tgt := 61) hc dX5_readsAtom_25 (by decide) ⟨by omega, by omega⟩ ⟨by omega, by omega⟩ (fun zc2 => ?_) (fun zc2 => ?_)
    · refine j_aload_n hc dX5_readsAtom_61 rfl ?_
      refine j_callU (d' := d - 1) hc dX5_readsAtom_62 uX5_47_c4 zQ1 (ev_X3_here_c4 (by omega) zQ1 ⟨zT_q1, zT2_q1⟩ hT (by omega) (by omega)) rfl (by omega) (by omega) (by omega) rfl rfl (Nat.le_of_ble_eq_true rfl) (ret1 ?_)
      refine j_callS (d' := d - 1) hc dX5_readsAtom_65 sX5_98 (ev_X4_letterCode (by omega) ⟨by omega, by omega⟩) rfl (by omega) (by omega) (by omega) rfl rfl (Nat.le_of_ble_eq_true rfl) (ret1 ?_)
      refine j_istore_n (L' := [_, _, _]) hc dX5_readsAtom_68 (Nat.le_of_ble_eq_true rfl) rfl ?_
      refine j_iload_n hc dX5_readsAtom_69 rfl ?_
      refine j_if_ne (b := 0) (tgt := 82) hc dX5_readsAtom_70 (by decide) ⟨by omega, by omega⟩ (fun zc3 => ?_) (fun zc3 => ?_)
      · have zlt : skS b n i < n := hrS_lt (b := b) (n := n) (i := skS b n i) (by omega) (fun z => absurd (show lcS (hrS b n (skS b n i)) = 0 by rw [z]; rfl) (by assumption))
        refine j_aload_n hc dX5_readsAtom_82 rfl ?_
        refine j_dup hc dX5_readsAtom_83 rfl ?_
        refine j_get hc dX5_readsAtom_84 fX5_80 zQ1 rfl ?_
        refine j_iconst hc dX5_readsAtom_87 ?_
        refine j_iadd hc dX5_readsAtom_88 ?_
        refine j_put (fs' := [_, _, _, _, _]) hc dX5_readsAtom_89 pX5_80 zQ1 rfl rfl ?_
        generalize ezh1 : up _ _ _ = zh1
        have zQ_zh1 := (congrFun ezh1 _).symm.trans (up_same _ _ _)
        have zQ10_zh1 := (congrFun ezh1 _).symm.trans ((up_ne (by simp)).trans zQ10_q1)
        have zT_zh1 := (congrFun ezh1 _).symm.trans ((up_ne (by simp)).trans zT_q1)
        have zT2_zh1 := (congrFun ezh1 _).symm.trans ((up_ne (by simp)).trans zT2_q1)
        refine j_aload_n hc dX5_readsAtom_92 rfl ?_
        refine j_iload_n hc dX5_readsAtom_93 rfl ?_
        refine j_callV (d' := d - 1) hc dX5_readsAtom_94 vX5_65 zQ_zh1 (ev_X5_writes (n := n) (by omega) ⟨zQ_zh1, zQ10_zh1⟩ (by omega) (by omega) rfl (by omega) (by omega)) rfl (by omega) (by omega) (by omega) rfl rfl (Nat.le_of_ble_eq_true rfl) (retE fun zv94 zq94 zp94 => ?_)
        have zr94 := RrP.val zp94
        subst zr94
        have zq9 := zp94
        exact j_zret hc he dX5_readsAtom_97 rfl (by omega) (by omega) (by split <;> first | exact Or.inr rfl | exact Or.inl rfl) ⟨_, rfl, zq9.tr ((by rw [← ezh1]; exact Fr.push (Fr.tr (Fr.rf isRr _) (zF1.mono fun z zz => (by first | exact zz | (rw [zz]; exact Or.inl rfl)))) (by first | exact Or.inl rfl | exact Or.inr rfl))) (by unfold atG; rw [if_neg zd1, if_neg (by omega), if_neg (by assumption)])⟩
      · refine j_aload_n hc dX5_readsAtom_73 rfl ?_
        refine j_aload_n hc dX5_readsAtom_74 rfl ?_
        refine j_get hc dX5_readsAtom_75 fX5_80 zQ1 rfl ?_
        refine j_callU (d' := d - 1) hc dX5_readsAtom_78 uX5_83_c4 zQ1 (ev_X3_isWrongAt_c4 (by omega) zQ1) rfl (by omega) (by omega) (by omega) rfl rfl (Nat.le_of_ble_eq_true rfl) (retE fun zv78 zq78 zp78 => ?_)
        obtain ⟨zv78_, zQw, zFw⟩ := zp78
        subst zv78_
        have zQ10_qw := (zFw _ (by first | (simp; done) | (simp; omega))).trans zQ10_q1
        have zT_qw := (zFw _ (by first | (simp; done) | (simp; omega))).trans zT_q1
        have zT2_qw := (zFw _ (by first | (simp; done) | (simp; omega))).trans zT2_q1
        exact j_zret hc he dX5_readsAtom_81 rfl (by omega) (by omega) (Or.inl rfl) ⟨_, rfl, RrP.fail (f0 := (skS b n i)) (by unfold atG; rw [if_neg zd1, if_neg (by omega), if_pos (by assumption)]; rfl) (by omega) ⟨zQw, zQ10_qw⟩ (by omega) (by omega) (by omega) (by omega) (Fr.tr (Fr.tr (Fr.rf isRr _) (zF1.mono fun z zz => (by first | exact zz | (rw [zz]; exact Or.inl rfl)))) (zFw.mono fun z zz => (by first | exact zz | (rw [zz]; exact Or.inl rfl))))⟩
    · have zc91 : hrS b n (skS b n i) = 91 := by omega
      have zlt : skS b n i < n := hrS_lt (b := b) (by omega) (by omega)
      refine j_aload_n hc dX5_readsAtom_28 rfl ?_
      refine j_iload_n hc dX5_readsAtom_29 rfl ?_
      refine j_callV (d' := d - 1) hc dX5_readsAtom_30 vX5_77 zQ1 (ev_X5_goesDeeper (n := n) (by omega) ⟨zQ1, zQ10_q1⟩ (by omega) (by omega) (by omega) (by omega) hdp0 hdp1 (by omega)) rfl (by omega) (by omega) (by omega) rfl rfl (Nat.le_of_ble_eq_true rfl) (retE fun zv30 zq30 zp30 => ?_)
      obtain ⟨iA, clA, cfA, zvA_, zOA, zokA, ziA, zjA, zkA, zlA, zFA⟩ := zp30.noT (gd_t _ _)
      subst zvA_
      have zT_qA := (zFA _ (by show ¬ (_ = 9 ∨ _ = 10); decide)).trans zT_q1
      have zT2_qA := (zFA _ (by show ¬ (_ = 9 ∨ _ = 10); decide)).trans zT2_q1
      refine j_if_eq (b := 0) (tgt := 59) hc dX5_readsAtom_33 (by decide) (by split <;> exact ⟨by omega, by omega⟩) (fun zc4 => ?_) (fun zc4 => ?_)
      · have zuA : ¬ (if dp < 6 then ((-1, (skS b n i) + 1, []) : RP) else rpF (skS b n i)).1 = -1 := one_neg zc4
        have z6 : ¬ dp < 6 := fun z => zuA (by rw [if_pos z])
        have zsm : sm = none := by
          cases zx : sm with
          | none => rfl
          | some s => exact absurd (hs s zx).1 z6
        refine j_iconst hc dX5_readsAtom_59 ?_
        exact j_zret hc he dX5_readsAtom_60 rfl (by omega) (by omega) (Or.inl rfl) ⟨_, rfl, RrP.fail (f0 := (if dp < 6 then ((-1, (skS b n i) + 1, []) : RP) else rpF (skS b n i)).1) (by unfold atG; rw [if_neg zd1, if_pos zc91, zsm, if_neg z6]) zuA ⟨zOA.1, zOA.2⟩ ziA zjA zkA zlA (Fr.tr (Fr.tr (Fr.rf isRr _) (zF1.mono fun z zz => (by first | exact zz | (rw [zz]; exact Or.inl rfl)))) zFA)⟩
      · have zuA : (if dp < 6 then ((-1, (skS b n i) + 1, []) : RP) else rpF (skS b n i)).1 = -1 := one_pos zc4
        have z6 : dp < 6 := by
          by_cases z : dp < 6
          · exact z
          · rw [if_neg z, rpF_1] at zuA; omega
        obtain ⟨s0, zsm⟩ : ∃ s0, sm = some s0 := by
          cases zx : sm with
          | none => exact absurd (h6 zx) (by omega)
          | some s => exact ⟨s, rfl⟩
        subst zsm
        obtain ⟨-, hg9, hs9⟩ := hs s0 rfl
        obtain ⟨zx1_, zx2_, zx3_⟩ := zokA zuA
        subst zx1_ zx2_ zx3_
        rw [if_pos z6] at zOA
        refine j_aload_n hc dX5_readsAtom_36 rfl ?_
        refine j_iload_n hc dX5_readsAtom_37 rfl ?_
        refine j_iconst hc dX5_readsAtom_38 ?_
        refine j_iadd hc dX5_readsAtom_39 ?_
        refine j_callV (d' := d - 1) hc dX5_readsAtom_40 vX5_57 zOA.1 (hs9 (d - 1) _ ((skS b n i) + 1) _ _ (by omega) ⟨zOA.1, zOA.2⟩ ⟨zT_qA, zT2_qA⟩ (by omega) (by omega) (by omega) (by omega)) rfl (by omega) (by omega) (by omega) rfl rfl (Nat.le_of_ble_eq_true rfl) (retE fun zv40 zq40 zp40 => ?_)
        obtain ⟨iB, clB, cfB, zvB_, zOB, zokB, ziB, zjB, zkB, zlB, zFB⟩ := zp40
        subst zvB_
        have zT_qB := (zFB _ (by show ¬ (_ = 9 ∨ _ = 10); decide)).trans zT_qA
        have zT2_qB := (zFB _ (by show ¬ (_ = 9 ∨ _ = 10); decide)).trans zT2_qA
        refine j_if_eq (b := 0) (tgt := 59) hc dX5_readsAtom_43 (by decide) (by split <;> exact ⟨by omega, by omega⟩) (fun zc5 => ?_) (fun zc5 => ?_)
        · have zuB : ¬ (s0 ((skS b n i) + 1)).1 = -1 := one_neg zc5
          refine j_iconst hc dX5_readsAtom_59 ?_
          exact j_zret hc he dX5_readsAtom_60 rfl (by omega) (by omega) (Or.inl rfl) ⟨_, rfl, RrP.fail (f0 := (s0 ((skS b n i) + 1)).1) (by unfold atG; rw [if_neg zd1, if_pos zc91]; exact brS_no zuB) zuB ⟨zOB.1, zOB.2⟩ ziB zjB zkB zlB (Fr.tr (Fr.tr (Fr.tr (Fr.rf isRr _) (zF1.mono fun z zz => (by first | exact zz | (rw [zz]; exact Or.inl rfl)))) zFA) zFB)⟩
        · have zuB : (s0 ((skS b n i) + 1)).1 = -1 := one_pos zc5
          obtain ⟨zx1_, zx2_, zx3_⟩ := zokB zuB
          subst zx1_ zx2_ zx3_
          rw [zuB] at zOB
          have zBB := (hg9 ((skS b n i) + 1) (by omega) (by omega)).2.2 zuB
          refine j_aload_n hc dX5_readsAtom_46 rfl ?_
          refine j_bipush hc dX5_readsAtom_47 (by decide) ?_
          refine j_callU (d' := d - 1) hc dX5_readsAtom_49 uX5_41_c4 zOB.1 (ev_X3_needs_c4 (b := b) (n := n) (i := (s0 ((skS b n i) + 1)).2.1) (cc := 93) (by omega) zOB.1 ⟨zT_qB, zT2_qB⟩ hT (by omega) (by omega) (by omega) (by omega)) rfl (by omega) (by omega) (by omega) rfl rfl (Nat.le_of_ble_eq_true rfl) (retE fun zv49 zq49 zp49 => ?_)
          have zp49 := needs_rr ⟨zOB.1, zOB.2⟩ (by decide) (by omega) (by omega) (by omega) (by omega) zp49
          obtain ⟨iC, clC, cfC, zvC_, zOC, zokC, ziC, zjC, zkC, zlC, zFC⟩ := zp49.noT (neS_t b n 93 (s0 ((skS b n i) + 1)).2.1)
          subst zvC_
          have zT_qC := (zFC _ (by show ¬ (_ = 9 ∨ _ = 10); decide)).trans zT_qB
          have zT2_qC := (zFC _ (by show ¬ (_ = 9 ∨ _ = 10); decide)).trans zT2_qB
          refine j_if_eq (b := 0) (tgt := 59) hc dX5_readsAtom_52 (by decide) (by split <;> exact ⟨by omega, by omega⟩) (fun zc6 => ?_) (fun zc6 => ?_)
          · have zuC : ¬ (neS b n 93 (s0 ((skS b n i) + 1)).2.1).1 = -1 := one_neg zc6
            refine j_iconst hc dX5_readsAtom_59 ?_
            exact j_zret hc he dX5_readsAtom_60 rfl (by omega) (by omega) (Or.inl rfl) ⟨_, rfl, RrP.fail (f0 := (neS b n 93 (s0 ((skS b n i) + 1)).2.1).1) (by unfold atG; rw [if_neg zd1, if_pos zc91]; exact brS_no2 zuB zuC) zuC ⟨zOC.1, zOC.2⟩ ziC zjC zkC zlC (Fr.tr (Fr.tr (Fr.tr (Fr.tr (Fr.rf isRr _) (zF1.mono fun z zz => (by first | exact zz | (rw [zz]; exact Or.inl rfl)))) zFA) zFB) zFC)⟩
          · have zuC : (neS b n 93 (s0 ((skS b n i) + 1)).2.1).1 = -1 := one_pos zc6
            obtain ⟨zx1_, zx2_, zx3_⟩ := zokC zuC
            subst zx1_ zx2_ zx3_
            rw [zuC] at zOC
            
            refine j_iconst hc dX5_readsAtom_55 ?_
            refine j_goto (tgt := 60) hc dX5_readsAtom_56 (by decide) ?_
            exact j_zret hc he dX5_readsAtom_60 rfl (by omega) (by omega) (Or.inr rfl) ⟨_, rfl, RrP.done (by unfold atG; rw [if_neg zd1, if_pos zc91]; exact brS_ok zuB zuC) ⟨zOC.1, zOC.2⟩ rfl rfl ziC zjC zkC zlC (Fr.tr (Fr.tr (Fr.tr (Fr.tr (Fr.rf isRr _) (zF1.mono fun z zz => (by first | exact zz | (rw [zz]; exact Or.inl rfl)))) zFA) zFB) zFC)⟩
  · have zd1 : dgS (hrS b n (skS b n i)) := one_pos zc1
    refine j_aload_n hc dX5_readsAtom_14 rfl ?_
    refine j_callV (d' := d - 1) hc dX5_readsAtom_15 vX5_95 zQ1 (ev_X5_readsDigits (by omega) ⟨zQ1, zQ10_q1⟩ ⟨zT_q1, zT2_q1⟩ hT (by omega) (by omega) (by omega) (by omega)) rfl (by omega) (by omega) (by omega) rfl rfl (Nat.le_of_ble_eq_true rfl) (retE fun zv15 zq15 zp15 => ?_)
    have zr15 := RrP.val zp15
    subst zr15
    have zq9 := zp15
    exact j_zret hc he dX5_readsAtom_18 rfl (by omega) (by omega) (by split <;> first | exact Or.inr rfl | exact Or.inl rfl) ⟨_, rfl, zq9.tr (Fr.tr (Fr.rf isRr _) (zF1.mono fun z zz => (by first | exact zz | (rw [zz]; exact Or.inl rfl)))) (by unfold atG; rw [if_pos zd1])⟩
