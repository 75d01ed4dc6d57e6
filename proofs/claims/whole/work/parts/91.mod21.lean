/-! ===== the reference: go, run, blame ===== -/
abbrev isTg : Nm → Prop := fun z => isTb z ∨ z = (247, 0)
theorem isTg_mo {z : Nm} (h : isTg z) : isMo z := by
  rcases h with h | h
  · exact isTb_mo h
  · rw [h]; exact Or.inr (by decide)
theorem mod_nx {D : LaS} (hD : LOK D) {i : Int} (hi : 0 ≤ i) : nxS D (i % lSe D) = (i + 1) % lSe D := by
  have h1 := hD.1
  have h2 := hD.2.1
  unfold nxS
  rcases (by omega : lSe D = 1 ∨ lSe D = 2 ∨ lSe D = 3 ∨ lSe D = 4) with e | e | e | e <;> (rw [e]; split <;> omega)
theorem syN_se {D : LaS} {E : LaY} (hD : LOK D) {sr : Int} {kq : Int → Int → Int} {rf f0 : Int → Int} {b0 : Int} : ∀ i : Nat, (syN D E sr kq rf f0 b0 i).2.1 = (i : Int) % lSe D
  | 0 => by have := hD.1; show (0 : Int) = 0 % lSe D; rw [Int.zero_emod]
  | i + 1 => by
    simp only [syN, sy1]
    rw [syN_se hD i, mod_nx hD (by omega)]
    rfl
theorem eaS_3 {D : LaS} (hD : LOK D) {sr e : Int} (h3 : sr = 3) : min (lNe D : Int) (eaS D sr e) = eaS D sr e ∧ max 0 ((lNe D : Int) - eaS D sr e) = lNe D - eaS D sr e := by
  have h := saS_b hD e
  unfold eaS
  rw [if_pos h3]
  omega
theorem eaS_n {D : LaS} {sr e : Int} (h3 : sr ≠ 3) : min (lNe D : Int) e = eaS D sr e ∧ max 0 ((lNe D : Int) - e) = lNe D - eaS D sr e := by
  unfold eaS
  rw [if_neg h3]
  omega
set_option maxRecDepth 100000 in
set_option maxHeartbeats 4000000 in
theorem lp_X11_go {k : WC} {d : Nat} {w : MC} {s : Int → Int} {A : MAs} {l : Int} {D : LaS} {E : LaY} {ru : RU} {cs : Int} {h0 : AH} {kd n b : Int} {rf f0 : Int → Int} {m : Nat} (hd : 210 ≤ d) (hWs : ∀ (k : WC) (p : Int), RuC k (fu s 48 p) A E ru) (hM : MlD A l D E) (hD : LOK D) (hE : YOK E) (zcs0 : 0 ≤ cs) (zcs1 : cs ≤ 30) (hl : s 37 = l) (hcs : s 38 = cs) (hk0 : 0 ≤ kd) (hk1 : kd ≤ 4) (hn1 : 1 ≤ n) (hn : n ≤ 12) (hb0 : 0 ≤ b) (hb1 : b ≤ 20) (hm40 : m ≤ 40) (hm42 : A 42 0 = m) (hrw : ∀ x : Int, 0 ≤ x → x < 40 → A 41 x = rf x ∧ 0 ≤ rf x ∧ rf x ≤ 20) (hc : Cx w k d 0 0 mdX11_go) (he : Ends w 0 0 (pe fun v h' => v = vI (suF (hyS D E kd (fun s a => kpS D E ru cs kd n s a) rf b) m) ∧ MdS h' (fu s 48 (syN D E kd (fun s a => kpS D E ru cs kd n s a) rf f0 b m).2.2.2.2) A ∧ MoM h' D E ru cs ∧ h' (247, 0) = some (oI 280 (syN D E kd (fun s a => kpS D E ru cs kd n s a) rf f0 b m).1) ∧ Fr isTg h0 h')) : ∀ (zm : Nat) (i : Nat) (se le ha pd al : Int) (z9 z10 z11 z12 z13 : Option AV) (f : Int → Int) (h : AH), m - i = zm → i ≤ m → syN D E kd (fun s a => kpS D E ru cs kd n s a) rf f0 b i = (f, se, le, ha, pd) → al = suF (hyS D E kd (fun s a => kpS D E ru cs kd n s a) rf b) i → MdS h (fu s 48 pd) A → MoM h D E ru cs → h (247, 0) = some (oI 280 f) → Fr isTg h0 h → J w 0 0 23 [some (vR (70, 0)), some (vI l), some (vI kd), some (vI n), some (vI b), some (vI le), some (vI ha), some (vI al), some (vI i), z9, z10, z11, z12, z13] [] h := by
  obtain ⟨⟨zl0, zl1⟩, mSe, mNe, mPa, mCo, mMi, mRo, mLa, mRn, mHv, mBu, mSl, mGr, mTb⟩ := id hM
  obtain ⟨d1, d2, d3, d4, d5, d6, d7, d8, d9, d10, d11, d12, d13⟩ := id hD
  intro zm
  induction zm using Nat.strongRecOn with
  | _ zm ih =>
    intro i se le ha pd al z9 z10 z11 z12 z13 f h hm him hq hal hS hm0 z47 hF
    have hl2 : fu s 48 pd 37 = l := hl
    have hcs2 : fu s 48 pd 38 = cs := hcs
    by_cases hi40 : i = m
    · have him : i = m := hi40
      refine j_iload hc dX11_go_23 rfl ?_
      refine j_aload_n hc dX11_go_25 rfl ?_
      refine j_get hc dX11_go_26 fX11_105 hS.1 rfl ?_
      refine j_iconst hc dX11_go_29 ?_
      refine j_iald hc dX11_go_30 hS.2.2.2.2.2.2.2.2.2.2.2.2.2.2.2.2.2.2.2.2.2.2.2 (by omega) (by omega) ?_
      rw [hm42]
      refine j_icmp_ge (tgt := 201) hc dX11_go_31 (by decide) ⟨by omega, by omega⟩ ⟨by omega, by omega⟩ (fun zc1 => ?_) (fun zc1 => ?_)
      · refine j_iload hc dX11_go_201 rfl ?_
        exact j_iret hc he dX11_go_203 rfl (by omega) (by omega) ⟨_, rfl, by rw [hal, him], by rw [← him, hq]; exact hS, hm0, by rw [← him, hq]; exact z47, hF⟩
      · exact absurd zc1 (by omega)
    have zsy := syN_b hD hE (sr := kd) (f0 := f0) (rf := rf) (kqP hD hE (ru := ru) (cs := cs) (kd := kd) hn1) hb0 hb1 (fun x x0 x1 => (hrw x x0 x1).2) i (by omega)
    have zse0 := syN_se hD (E := E) (sr := kd) (kq := (fun s a => kpS D E ru cs kd n s a)) (rf := rf) (f0 := f0) (b0 := b) i
    have zhy : hyS D E kd (fun s a => kpS D E ru cs kd n s a) rf b i = lNe D - eaS D kd (gtT D E kd (le + rf i - kpS D E ru cs kd n se (le + rf i), ha, pd)).1 := by
      unfold hyS syG syT
      rw [syN_f0 (f1 := f0) i, hq]
    rw [hq] at zsy zse0
    dsimp only at zsy zse0
    have zrw := (hrw i (by omega) (by omega)).2
    have zse : (i : Int) - (i : Int).tdiv (lSe D) * lSe D = se := by
      rw [Int.tdiv_eq_ediv_of_nonneg (by omega), zse0]
      have := Int.emod_add_mul_ediv (i : Int) (lSe D)
      rw [Int.mul_comm] at this
      omega
    have zk := kpS_b hD hE (ru := ru) (cs := cs) (sr := kd) (n := n) (s := se) (a := le + rf i) (by omega)
    have zk2 := kpS_le hD hE (ru := ru) (cs := cs) (sr := kd) (n := n) (s := se) (a := le + rf i) hn1 (by omega)
    by_cases h3 : kd = 3
    · have zgt : gtT D E kd (le + rf i - kpS D E ru cs kd n se (le + rf i), ha, pd) = (le + rf i - kpS D E ru cs kd n se (le + rf i), ha, pd) := if_pos h3
      have zea := eaS_b hD (sr := kd) (e := le + rf i - kpS D E ru cs kd n se (le + rf i)) (by omega)
      refine j_iload hc dX11_go_23 rfl ?_
      refine j_aload_n hc dX11_go_25 rfl ?_
      refine j_get hc dX11_go_26 fX11_105 hS.1 rfl ?_
      refine j_iconst hc dX11_go_29 ?_
      refine j_iald hc dX11_go_30 hS.2.2.2.2.2.2.2.2.2.2.2.2.2.2.2.2.2.2.2.2.2.2.2 (by omega) (by omega) ?_
      rw [hm42]
      refine j_icmp_ge (tgt := 201) hc dX11_go_31 (by decide) ⟨by omega, by omega⟩ ⟨by omega, by omega⟩ (fun zc1 => ?_) (fun zc1 => ?_)
      · exact absurd zc1 (by omega)
      · refine j_iload hc dX11_go_34 rfl ?_
        refine j_aload_n hc dX11_go_36 rfl ?_
        refine j_get hc dX11_go_37 fX11_13 hS.1 rfl ?_
        refine j_iload_n hc dX11_go_40 rfl ?_
        refine j_iald hc dX11_go_41 hS.2.2.1 (by omega) (by omega) ?_
        rw [mSe]
        refine j_irem hc dX11_go_42 ⟨by omega, by omega⟩ ⟨by omega, by omega⟩ (by omega) ?_
        rw [zse]
        refine j_istore (L' := [_, _, _, _, _, _, _, _, _, _, _, _, _, _]) hc dX11_go_43 (Nat.le_of_ble_eq_true rfl) rfl ?_
        refine j_iload hc dX11_go_45 rfl ?_
        refine j_aload_n hc dX11_go_47 rfl ?_
        refine j_get hc dX11_go_48 fX11_102 hS.1 rfl ?_
        refine j_iload hc dX11_go_51 rfl ?_
        refine j_iald hc dX11_go_53 hS.2.2.2.2.2.2.2.2.2.2.2.2.2.2.2.2.2.2.2.2.2.2.1 (by omega) (by omega) ?_
        rw [(hrw i (by omega) (by omega)).1]
        refine j_iadd hc dX11_go_54 ?_
        refine j_istore (L' := [_, _, _, _, _, _, _, _, _, _, _, _, _, _]) hc dX11_go_55 (Nat.le_of_ble_eq_true rfl) rfl ?_
        refine j_aload_n hc dX11_go_57 rfl ?_
        refine j_iload_n hc dX11_go_58 rfl ?_
        refine j_iload_n hc dX11_go_59 rfl ?_
        refine j_iload hc dX11_go_60 rfl ?_
        refine j_iload hc dX11_go_62 rfl ?_
        refine j_callV (d' := d - 1) hc dX11_go_64 vX11_319 hS.1 (tb_kept (by omega) (⟨hS, hm0, Fr.rf _ _, hl2, hcs2⟩ : TbA (fu s 48 pd) A D E ru cs l _ _) (hWs _ _) hM hD hE zcs0 zcs1 (by omega) (by omega) (by omega) (by omega) (by omega) (by omega) (by omega) (by omega)) rfl (by omega) (by omega) (by omega) rfl rfl (Nat.le_of_ble_eq_true rfl) (retE fun zv64 zq64 zp64 => ?_)
        obtain ⟨zv1, zT1⟩ := zp64
        subst zv1
        refine j_istore (L' := [_, _, _, _, _, _, _, _, _, _, _, _, _, _]) hc dX11_go_67 (Nat.le_of_ble_eq_true rfl) rfl ?_
        refine j_iload_n hc dX11_go_69 rfl ?_
        refine j_iconst hc dX11_go_70 ?_
        refine j_icmp_ne (tgt := 87) hc dX11_go_71 (by decide) ⟨by omega, by omega⟩ ⟨by omega, by omega⟩ (fun zc2 => ?_) (fun zc2 => ?_)
        · exact absurd h3 zc2
        · refine j_aload_n hc dX11_go_74 rfl ?_
          refine j_iload_n hc dX11_go_75 rfl ?_
          refine j_iload_n hc dX11_go_76 rfl ?_
          refine j_iload hc dX11_go_77 rfl ?_
          refine j_iload hc dX11_go_79 rfl ?_
          refine j_callV (d' := d - 1) hc dX11_go_81 vX11_335 zT1.1.1 (tb_eats (by omega) (⟨zT1.1, zT1.2.1, Fr.rf _ _, hl2, hcs2⟩ : TbA (fu s 48 pd) A D E ru cs l _ _) (hWs _ _) hM hD hE zcs0 zcs1 (by omega) (by omega) (by omega) (by omega) (by omega) (by omega) (by omega) (by omega)) rfl (by omega) (by omega) (by omega) rfl rfl (Nat.le_of_ble_eq_true rfl) (retE fun zv81 zq81 zp81 => ?_)
          obtain ⟨zv2, zT2⟩ := zp81
          subst zv2
          refine j_goto (tgt := 92) hc dX11_go_84 (by decide) ?_
          refine j_istore (L' := [_, _, _, _, _, _, _, _, _, _, _, _, _, _]) hc dX11_go_92 (Nat.le_of_ble_eq_true rfl) rfl ?_
          refine j_iload_n hc dX11_go_94 rfl ?_
          refine j_iconst hc dX11_go_95 ?_
          refine j_icmp_eq (tgt := 123) hc dX11_go_96 (by decide) ⟨by omega, by omega⟩ ⟨by omega, by omega⟩ (fun zc3 => ?_) (fun zc3 => ?_)
          · refine j_iload_n hc dX11_go_123 rfl ?_
            refine j_iconst hc dX11_go_124 ?_
            refine j_icmp_ne (tgt := 141) hc dX11_go_125 (by decide) ⟨by omega, by omega⟩ ⟨by omega, by omega⟩ (fun zc4 => ?_) (fun zc4 => ?_)
            · exact absurd h3 zc4
            · refine j_aload_n hc dX11_go_128 rfl ?_
              refine j_iload_n hc dX11_go_129 rfl ?_
              refine j_iload_n hc dX11_go_130 rfl ?_
              refine j_iload hc dX11_go_131 rfl ?_
              refine j_iload hc dX11_go_133 rfl ?_
              refine j_callV (d' := d - 1) hc dX11_go_135 vX11_351 zT2.1.1 (tb_priceOf (by omega) (⟨zT2.1, zT2.2.1, Fr.rf _ _, hl2, hcs2⟩ : TbA (fu s 48 pd) A D E ru cs l _ _) (hWs _ _) hM hD hE zcs0 zcs1 (by omega) (by omega) (by omega) (by omega) (by omega) (by omega) (by omega) (by omega)) rfl (by omega) (by omega) (by omega) rfl rfl (Nat.le_of_ble_eq_true rfl) (retE fun zv135 zq135 zp135 => ?_)
              obtain ⟨zv3, zT3⟩ := zp135
              subst zv3
              refine j_goto (tgt := 148) hc dX11_go_138 (by decide) ?_
              refine j_istore (L' := [_, _, _, _, _, _, _, _, _, _, _, _, _, _]) hc dX11_go_148 (Nat.le_of_ble_eq_true rfl) rfl ?_
              refine j_aload_n hc dX11_go_150 rfl ?_
              refine j_aload_n hc dX11_go_151 rfl ?_
              refine j_get hc dX11_go_152 fX11_111 zT3.1.1 rfl ?_
              refine j_bipush hc dX11_go_155 (by decide) ?_
              refine j_iload hc dX11_go_157 rfl ?_
              refine j_imul hc dX11_go_159 ?_
              refine j_iload hc dX11_go_160 rfl ?_
              refine j_iload hc dX11_go_162 rfl ?_
              refine j_iload hc dX11_go_164 rfl ?_
              refine j_iload hc dX11_go_166 rfl ?_
              refine j_iload hc dX11_go_168 rfl ?_
              refine j_iconst hc dX11_go_170 ?_
              refine j_callV (d' := d - 1) hc dX11_go_171 vX11_373 zT3.1.1 (ev_X11_note (by omega) zT3.1 hM hD hE hl2 (by decide) ((zT3.2.2.1 _ (by decide)).trans ((zT2.2.2.1 _ (by decide)).trans ((zT1.2.2.1 _ (by decide)).trans z47))) (by omega) (by omega) (by omega) (by omega) (by omega)) rfl (by omega) (by omega) (by omega) rfl rfl (Nat.le_of_ble_eq_true rfl) (retN fun zq171 zp171 => ?_)
              obtain ⟨zN8, zF8⟩ := zp171
              have zS8 := MdS.fr (fun z hz => zF8 z (fun y => by rw [y] at hz; exact absurd hz (by decide))) zT3.1
              have zM8 := MoM.fr (fun z hz => zF8 z (fun y => by rw [y] at hz; exact absurd hz (by decide))) zT3.2.1
              rw [(eaS_3 hD h3).1, (eaS_3 hD h3).2] at zN8
              refine j_iload hc dX11_go_174 rfl ?_
              refine j_aload_n hc dX11_go_176 rfl ?_
              refine j_iload_n hc dX11_go_177 rfl ?_
              refine j_iload hc dX11_go_178 rfl ?_
              refine j_callV (d' := d - 1) hc dX11_go_180 vX11_272 zS8.1 (ev_X11_hungry (by omega) zS8 hM hD hE ⟨by omega, by omega⟩ ⟨by omega, by omega⟩) rfl (by omega) (by omega) (by omega) rfl rfl (Nat.le_of_ble_eq_true rfl) (ret1 ?_)
              rw [(eaS_3 hD h3).2]
              refine j_iadd hc dX11_go_183 ?_
              refine j_istore (L' := [_, _, _, _, _, _, _, _, _, _, _, _, _, _]) hc dX11_go_184 (Nat.le_of_ble_eq_true rfl) rfl ?_
              refine j_aload_n hc dX11_go_186 rfl ?_
              refine j_iload_n hc dX11_go_187 rfl ?_
              refine j_iload hc dX11_go_188 rfl ?_
              refine j_callV (d' := d - 1) hc dX11_go_190 vX11_275 zS8.1 (ev_X11_leftOf (by omega) zS8 hM hD hE (by omega) (by omega)) rfl (by omega) (by omega) (by omega) rfl rfl (Nat.le_of_ble_eq_true rfl) (ret1 ?_)
              refine j_istore (L' := [_, _, _, _, _, _, _, _, _, _, _, _, _, _]) hc dX11_go_193 (Nat.le_of_ble_eq_true rfl) rfl ?_
              refine j_iinc (L' := [_, _, _, _, _, _, _, _, _, _, _, _, _, _]) hc dX11_go_195 rfl (Nat.le_of_ble_eq_true rfl) rfl ?_
              refine j_goto (tgt := 23) hc dX11_go_198 (by decide) ?_
              exact ih _ (by omega) (i + 1) _ _ _ _ _ _ _ _ _ _ _ _ rfl (by omega) (by show sy1 D E kd (fun s a => kpS D E ru cs kd n s a) rf i (syN D E kd (fun s a => kpS D E ru cs kd n s a) rf f0 b i) = _; rw [hq]; unfold sy1; dsimp only; rw [zgt, show plS 0 i = 7 * (i : Int) by unfold plS; omega]) (by show _ = suF (hyS D E kd (fun s a => kpS D E ru cs kd n s a) rf b) i + hyS D E kd (fun s a => kpS D E ru cs kd n s a) rf b i; rw [hal, zhy, zgt]) zS8 zM8 zN8 (Fr.tr (Fr.tr (Fr.tr (Fr.tr (hF) (zT1.2.2.1.mono fun z zz => Or.inl zz)) (zT2.2.2.1.mono fun z zz => Or.inl zz)) (zT3.2.2.1.mono fun z zz => Or.inl zz)) (zF8.mono fun z zz => Or.inr zz))
          · exact absurd h3 zc3
    · have zgt : gtT D E kd (le + rf i - kpS D E ru cs kd n se (le + rf i), ha, pd) = gtS D E (le + rf i - kpS D E ru cs kd n se (le + rf i), ha, pd) := if_neg h3
      have zgb := gtS_b (D := D) hE (t := (le + rf i - kpS D E ru cs kd n se (le + rf i), ha, pd)) (by dsimp only; omega) (by dsimp only; omega) (by dsimp only; omega) (by dsimp only; omega)
      refine j_iload hc dX11_go_23 rfl ?_
      refine j_aload_n hc dX11_go_25 rfl ?_
      refine j_get hc dX11_go_26 fX11_105 hS.1 rfl ?_
      refine j_iconst hc dX11_go_29 ?_
      refine j_iald hc dX11_go_30 hS.2.2.2.2.2.2.2.2.2.2.2.2.2.2.2.2.2.2.2.2.2.2.2 (by omega) (by omega) ?_
      rw [hm42]
      refine j_icmp_ge (tgt := 201) hc dX11_go_31 (by decide) ⟨by omega, by omega⟩ ⟨by omega, by omega⟩ (fun zc1 => ?_) (fun zc1 => ?_)
      · exact absurd zc1 (by omega)
      · refine j_iload hc dX11_go_34 rfl ?_
        refine j_aload_n hc dX11_go_36 rfl ?_
        refine j_get hc dX11_go_37 fX11_13 hS.1 rfl ?_
        refine j_iload_n hc dX11_go_40 rfl ?_
        refine j_iald hc dX11_go_41 hS.2.2.1 (by omega) (by omega) ?_
        rw [mSe]
        refine j_irem hc dX11_go_42 ⟨by omega, by omega⟩ ⟨by omega, by omega⟩ (by omega) ?_
        rw [zse]
        refine j_istore (L' := [_, _, _, _, _, _, _, _, _, _, _, _, _, _]) hc dX11_go_43 (Nat.le_of_ble_eq_true rfl) rfl ?_
        refine j_iload hc dX11_go_45 rfl ?_
        refine j_aload_n hc dX11_go_47 rfl ?_
        refine j_get hc dX11_go_48 fX11_102 hS.1 rfl ?_
        refine j_iload hc dX11_go_51 rfl ?_
        refine j_iald hc dX11_go_53 hS.2.2.2.2.2.2.2.2.2.2.2.2.2.2.2.2.2.2.2.2.2.2.1 (by omega) (by omega) ?_
        rw [(hrw i (by omega) (by omega)).1]
        refine j_iadd hc dX11_go_54 ?_
        refine j_istore (L' := [_, _, _, _, _, _, _, _, _, _, _, _, _, _]) hc dX11_go_55 (Nat.le_of_ble_eq_true rfl) rfl ?_
        refine j_aload_n hc dX11_go_57 rfl ?_
        refine j_iload_n hc dX11_go_58 rfl ?_
        refine j_iload_n hc dX11_go_59 rfl ?_
        refine j_iload hc dX11_go_60 rfl ?_
        refine j_iload hc dX11_go_62 rfl ?_
        refine j_callV (d' := d - 1) hc dX11_go_64 vX11_319 hS.1 (tb_kept (by omega) (⟨hS, hm0, Fr.rf _ _, hl2, hcs2⟩ : TbA (fu s 48 pd) A D E ru cs l _ _) (hWs _ _) hM hD hE zcs0 zcs1 (by omega) (by omega) (by omega) (by omega) (by omega) (by omega) (by omega) (by omega)) rfl (by omega) (by omega) (by omega) rfl rfl (Nat.le_of_ble_eq_true rfl) (retE fun zv64 zq64 zp64 => ?_)
        obtain ⟨zv1, zT1⟩ := zp64
        subst zv1
        refine j_istore (L' := [_, _, _, _, _, _, _, _, _, _, _, _, _, _]) hc dX11_go_67 (Nat.le_of_ble_eq_true rfl) rfl ?_
        refine j_iload_n hc dX11_go_69 rfl ?_
        refine j_iconst hc dX11_go_70 ?_
        refine j_icmp_ne (tgt := 87) hc dX11_go_71 (by decide) ⟨by omega, by omega⟩ ⟨by omega, by omega⟩ (fun zc2 => ?_) (fun zc2 => ?_)
        · refine j_iload hc dX11_go_87 rfl ?_
          refine j_iload hc dX11_go_89 rfl ?_
          refine j_isub hc dX11_go_91 ?_
          refine j_istore (L' := [_, _, _, _, _, _, _, _, _, _, _, _, _, _]) hc dX11_go_92 (Nat.le_of_ble_eq_true rfl) rfl ?_
          refine j_iload_n hc dX11_go_94 rfl ?_
          refine j_iconst hc dX11_go_95 ?_
          refine j_icmp_eq (tgt := 123) hc dX11_go_96 (by decide) ⟨by omega, by omega⟩ ⟨by omega, by omega⟩ (fun zc3 => ?_) (fun zc3 => ?_)
          · exact absurd zc3 h3
          · refine j_iload hc dX11_go_99 rfl ?_
            refine j_istore (L' := [_, _, _, _, _, _, _, _, _, _, _, _, _, _]) hc dX11_go_101 (Nat.le_of_ble_eq_true rfl) rfl ?_
            refine j_aload_n hc dX11_go_103 rfl ?_
            refine j_iload hc dX11_go_104 rfl ?_
            refine j_iload hc dX11_go_106 rfl ?_
            refine j_callV (d' := d - 1) hc dX11_go_108 vX11_370 zT1.1.1 (ev_X11_trades (by omega) zT1.1 hM hD hE hl2 (by omega) (by omega) (by omega)) rfl (by omega) (by omega) (by omega) rfl rfl (Nat.le_of_ble_eq_true rfl) (retE fun zv108 zq108 zp108 => ?_)
            obtain ⟨zv9, zS9, zF9⟩ := zp108
            subst zv9
            rw [fu_fu, show fu s 48 pd 48 = pd from rfl] at zS9
            rw [show fu s 48 pd 48 = pd from rfl]
            have zM9 := MoM.fr (fun z hz => zF9 z (fun y => by rw [y] at hz; exact absurd hz (by decide))) zT1.2.1
            have zsu := gtS_su (D := D) (E := E) (le + rf i - kpS D E ru cs kd n se (le + rf i), ha, pd)
            dsimp only at zsu
            refine j_istore (L' := [_, _, _, _, _, _, _, _, _, _, _, _, _, _]) hc dX11_go_111 (Nat.le_of_ble_eq_true rfl) rfl ?_
            refine j_iload hc dX11_go_113 rfl ?_
            refine j_iload hc dX11_go_115 rfl ?_
            refine j_iload hc dX11_go_117 rfl ?_
            refine j_isub hc dX11_go_119 ?_
            refine j_isub hc dX11_go_120 ?_
            rw [show le + rf i - kpS D E ru cs kd n se (le + rf i) - ((gtS D E (le + rf i - kpS D E ru cs kd n se (le + rf i), ha, pd)).2.1 - ha) = (gtS D E (le + rf i - kpS D E ru cs kd n se (le + rf i), ha, pd)).1 by omega]
            refine j_istore (L' := [_, _, _, _, _, _, _, _, _, _, _, _, _, _]) hc dX11_go_121 (Nat.le_of_ble_eq_true rfl) rfl ?_
            refine j_iload_n hc dX11_go_123 rfl ?_
            refine j_iconst hc dX11_go_124 ?_
            refine j_icmp_ne (tgt := 141) hc dX11_go_125 (by decide) ⟨by omega, by omega⟩ ⟨by omega, by omega⟩ (fun zc4 => ?_) (fun zc4 => ?_)
            · refine j_aload_n hc dX11_go_141 rfl ?_
              refine j_iload_n hc dX11_go_142 rfl ?_
              refine j_iload hc dX11_go_143 rfl ?_
              refine j_callV (d' := d - 1) hc dX11_go_145 vX11_269 zS9.1 (ev_X11_priceAt (by omega) zS9 hM hD hE (by omega) (by omega)) rfl (by omega) (by omega) (by omega) rfl rfl (Nat.le_of_ble_eq_true rfl) (ret1 ?_)
              refine j_istore (L' := [_, _, _, _, _, _, _, _, _, _, _, _, _, _]) hc dX11_go_148 (Nat.le_of_ble_eq_true rfl) rfl ?_
              refine j_aload_n hc dX11_go_150 rfl ?_
              refine j_aload_n hc dX11_go_151 rfl ?_
              refine j_get hc dX11_go_152 fX11_111 zS9.1 rfl ?_
              refine j_bipush hc dX11_go_155 (by decide) ?_
              refine j_iload hc dX11_go_157 rfl ?_
              refine j_imul hc dX11_go_159 ?_
              refine j_iload hc dX11_go_160 rfl ?_
              refine j_iload hc dX11_go_162 rfl ?_
              refine j_iload hc dX11_go_164 rfl ?_
              refine j_iload hc dX11_go_166 rfl ?_
              refine j_iload hc dX11_go_168 rfl ?_
              refine j_iconst hc dX11_go_170 ?_
              refine j_callV (d' := d - 1) hc dX11_go_171 vX11_373 zS9.1 (ev_X11_note (by omega) zS9 hM hD hE (show fu s 48 _ 37 = l from hl) (by decide) ((zF9 _ (by decide)).trans ((zT1.2.2.1 _ (by decide)).trans z47)) (by omega) (by omega) (by omega) (by omega) (by omega)) rfl (by omega) (by omega) (by omega) rfl rfl (Nat.le_of_ble_eq_true rfl) (retN fun zq171 zp171 => ?_)
              obtain ⟨zN8, zF8⟩ := zp171
              have zS8 := MdS.fr (fun z hz => zF8 z (fun y => by rw [y] at hz; exact absurd hz (by decide))) zS9
              have zM8 := MoM.fr (fun z hz => zF8 z (fun y => by rw [y] at hz; exact absurd hz (by decide))) zM9
              rw [(eaS_n h3).1, (eaS_n h3).2] at zN8
              refine j_iload hc dX11_go_174 rfl ?_
              refine j_aload_n hc dX11_go_176 rfl ?_
              refine j_iload_n hc dX11_go_177 rfl ?_
              refine j_iload hc dX11_go_178 rfl ?_
              refine j_callV (d' := d - 1) hc dX11_go_180 vX11_272 zS8.1 (ev_X11_hungry (by omega) zS8 hM hD hE ⟨by omega, by omega⟩ ⟨by omega, by omega⟩) rfl (by omega) (by omega) (by omega) rfl rfl (Nat.le_of_ble_eq_true rfl) (ret1 ?_)
              rw [(eaS_n h3).2]
              refine j_iadd hc dX11_go_183 ?_
              refine j_istore (L' := [_, _, _, _, _, _, _, _, _, _, _, _, _, _]) hc dX11_go_184 (Nat.le_of_ble_eq_true rfl) rfl ?_
              refine j_aload_n hc dX11_go_186 rfl ?_
              refine j_iload_n hc dX11_go_187 rfl ?_
              refine j_iload hc dX11_go_188 rfl ?_
              refine j_callV (d' := d - 1) hc dX11_go_190 vX11_275 zS8.1 (ev_X11_leftOf (by omega) zS8 hM hD hE (by omega) (by omega)) rfl (by omega) (by omega) (by omega) rfl rfl (Nat.le_of_ble_eq_true rfl) (ret1 ?_)
              refine j_istore (L' := [_, _, _, _, _, _, _, _, _, _, _, _, _, _]) hc dX11_go_193 (Nat.le_of_ble_eq_true rfl) rfl ?_
              refine j_iinc (L' := [_, _, _, _, _, _, _, _, _, _, _, _, _, _]) hc dX11_go_195 rfl (Nat.le_of_ble_eq_true rfl) rfl ?_
              refine j_goto (tgt := 23) hc dX11_go_198 (by decide) ?_
              exact ih _ (by omega) (i + 1) _ _ _ _ _ _ _ _ _ _ _ _ rfl (by omega) (by show sy1 D E kd (fun s a => kpS D E ru cs kd n s a) rf i (syN D E kd (fun s a => kpS D E ru cs kd n s a) rf f0 b i) = _; rw [hq]; unfold sy1; dsimp only; rw [zgt, show plS 0 i = 7 * (i : Int) by unfold plS; omega, show poS D kd (gtS D E (le + rf i - kpS D E ru cs kd n se (le + rf i), ha, pd)).1 = prS D (gtS D E (le + rf i - kpS D E ru cs kd n se (le + rf i), ha, pd)).1 by unfold poS; rw [if_neg h3]]) (by show _ = suF (hyS D E kd (fun s a => kpS D E ru cs kd n s a) rf b) i + hyS D E kd (fun s a => kpS D E ru cs kd n s a) rf b i; rw [hal, zhy, zgt]) zS8 zM8 zN8 (Fr.tr (Fr.tr (Fr.tr (hF) (zT1.2.2.1.mono fun z zz => Or.inl zz)) (zF9.mono fun z zz => Or.inl (Or.inl zz))) (zF8.mono fun z zz => Or.inr zz))
            · exact absurd zc4 h3
        · exact absurd zc2 h3
