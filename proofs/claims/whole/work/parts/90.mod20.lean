/-! ===== the reference: trades, note ===== -/
theorem fu_fu (f : Int → Int) (i v x : Int) : fu (fu f i v) i x = fu f i x := by
  funext j
  unfold fu
  split <;> rfl
theorem fu_self (f : Int → Int) (i : Int) : fu f i (f i) = f := by
  funext j
  unfold fu
  split
  · rename_i h; rw [h]
  · rfl
theorem gbN_no {D : LaS} {b g : Int} (m : Nat) {t : Int × Int × Int} (h : ¬ gbB D b g t) : gbN D b g m t = t := by
  cases m with
  | zero => rfl
  | succ m => simp only [gbN]; rw [if_neg h]
theorem gsN_no {D : LaS} {b : Int} (m : Nat) {t : Int × Int × Int} (h : ¬ (0 < t.2.1 ∧ b < prS D t.1)) : gsN D b m t = t := by
  cases m with
  | zero => rfl
  | succ m => simp only [gsN]; rw [if_neg h]
theorem gbN_su {D : LaS} {b g : Int} : ∀ (m : Nat) (t : Int × Int × Int), (gbN D b g m t).1 + (gbN D b g m t).2.1 = t.1 + t.2.1
  | 0, t => rfl
  | m + 1, t => by
    simp only [gbN]
    split
    · rw [gbN_su m]; show t.1 - 1 + (t.2.1 + 1) = _; omega
    · rfl
theorem gsN_su {D : LaS} {b : Int} : ∀ (m : Nat) (t : Int × Int × Int), (gsN D b m t).1 + (gsN D b m t).2.1 = t.1 + t.2.1
  | 0, t => rfl
  | m + 1, t => by
    simp only [gsN]
    split
    · rw [gsN_su m]; show t.1 + 1 + (t.2.1 - 1) = _; omega
    · rfl
theorem gtS_su {D : LaS} {E : LaY} (t : Int × Int × Int) : (gtS D E t).1 + (gtS D E t).2.1 = t.1 + t.2.1 := by
  unfold gtS
  split
  · exact gbN_su _ _
  · exact gsN_su _ _
def TrP (s : Int → Int) (A : MAs) (h : AH) (r : Int × Int × Int) : Option AV → AH → Prop := pe fun v h' => v = vI r.2.1 ∧ MdS h' (fu s 48 r.2.2) A ∧ Fr (fun z => z = (70, 0)) h h'
set_option maxRecDepth 100000 in
set_option maxHeartbeats 4000000 in
theorem lp_X11_trades2 {k : WC} {d : Nat} {w : MC} {h0 : AH} {s : Int → Int} {A : MAs} {l : Int} {D : LaS} {E : LaY} {e0 n0 : Int} (hd : 2 ≤ d) (hM : MlD A l D E) (hD : LOK D) (hE : YOK E) (hl : s 37 = l)  (hc : Cx w k d 0 0 mdX11_trades) : ∀ (zm : Nat) (e n p : Int) (h : AH), n.toNat = zm → 0 ≤ e → 0 ≤ n → e + n ≤ 100 → Ends w 0 0 (TrP s A h0 (gsN D (ySell E) zm (e, n, p))) → MdS h (fu s 48 p) A → Fr (fun z => z = (70, 0)) h0 h → J w 0 0 122 [some (vR (70, 0)), some (vI e0), some (vI n0), some (vI e), some (vI n), some (vI 0)] [] h := by
  intro zm
  induction zm using Nat.strongRecOn with
  | _ zm ih =>
    intro e n p h hm he0 hn0 hen he hS hF
    obtain ⟨⟨zl0, zl1⟩, mSe, mNe, mPa, mCo, mMi, mRo, mLa, mRn, mHv, mBu, mSl, mGr, mTb⟩ := id hM
    obtain ⟨d1, d2, d3, d4, d5, d6, d7, d8, d9, d10, d11, d12, d13⟩ := id hD
    obtain ⟨y1, y2, y3, y4, y5, y6, y7, y8, y9, y10⟩ := id hE
    have zl37 : fu s 48 p 37 = l := hl
    have zpr := prS_lo hD e
    refine j_iload hc dX11_trades_122 rfl ?_
    refine j_if_ne (b := 0) (tgt := 180) hc dX11_trades_124 (by decide) ⟨by omega, by omega⟩ (fun zc1 => ?_) (fun zc1 => ?_)
    · exact absurd rfl zc1
    · refine j_aload_n hc dX11_trades_127 rfl ?_
      refine j_aload_n hc dX11_trades_128 rfl ?_
      refine j_get hc dX11_trades_129 fX11_278 hS.1 rfl ?_
      rw [zl37]
      refine j_iload_n hc dX11_trades_132 rfl ?_
      refine j_callV (d' := d - 1) hc dX11_trades_133 vX11_269 hS.1 (ev_X11_priceAt (by omega) hS hM hD hE (by omega) (by omega)) rfl (by omega) (by omega) (by omega) rfl rfl (Nat.le_of_ble_eq_true rfl) (ret1 ?_)
      refine j_aload_n hc dX11_trades_136 rfl ?_
      refine j_get hc dX11_trades_137 fX11_55 hS.1 rfl ?_
      refine j_aload_n hc dX11_trades_140 rfl ?_
      refine j_get hc dX11_trades_141 fX11_278 hS.1 rfl ?_
      rw [zl37]
      refine j_iald hc dX11_trades_144 hS.2.2.2.2.2.2.2.2.2.2.2.2.2.2.2.2.1 (by omega) (by omega) ?_
      rw [mSl]
      refine j_icmp_le (tgt := 180) hc dX11_trades_145 (by decide) ⟨by omega, by omega⟩ ⟨by omega, by omega⟩ (fun zc2 => ?_) (fun zc2 => ?_)
      · refine j_iload hc dX11_trades_180 rfl ?_
        exact j_iret hc he dX11_trades_182 rfl (by omega) (by omega) ⟨_, rfl, by rw [gsN_no _ (fun z => by have z1 : 0 < n := z.1; have z2 : ySell E < prS D e := z.2; omega)], by rw [gsN_no _ (fun z => by have z1 : 0 < n := z.1; have z2 : ySell E < prS D e := z.2; omega)]; exact hS, hF⟩
      · refine j_iload hc dX11_trades_148 rfl ?_
        refine j_if_le (b := 0) (tgt := 180) hc dX11_trades_150 (by decide) ⟨by omega, by omega⟩ (fun zc3 => ?_) (fun zc3 => ?_)
        · refine j_iload hc dX11_trades_180 rfl ?_
          exact j_iret hc he dX11_trades_182 rfl (by omega) (by omega) ⟨_, rfl, by rw [gsN_no _ (fun z => by have z1 : 0 < n := z.1; have z2 : ySell E < prS D e := z.2; omega)], by rw [gsN_no _ (fun z => by have z1 : 0 < n := z.1; have z2 : ySell E < prS D e := z.2; omega)]; exact hS, hF⟩
        · refine j_aload_n hc dX11_trades_153 rfl ?_
          refine j_dup hc dX11_trades_154 rfl ?_
          refine j_get hc dX11_trades_155 fX11_367 hS.1 rfl ?_
          refine j_aload_n hc dX11_trades_158 rfl ?_
          refine j_aload_n hc dX11_trades_159 rfl ?_
          refine j_get hc dX11_trades_160 fX11_278 hS.1 rfl ?_
          rw [zl37]
          refine j_iload_n hc dX11_trades_163 rfl ?_
          refine j_callV (d' := d - 1) hc dX11_trades_164 vX11_269 hS.1 (ev_X11_priceAt (by omega) hS hM hD hE (by omega) (by omega)) rfl (by omega) (by omega) (by omega) rfl rfl (Nat.le_of_ble_eq_true rfl) (ret1 ?_)
          refine j_isub hc dX11_trades_167 ?_
          refine j_put  hc dX11_trades_168 pX11_367 hS.1 rfl mset_48 ?_
          generalize ezh1 : up _ _ _ = zh1
          have zzmod_zh1 := MdS.pf ezh1 hS
          refine j_iinc (L' := [_, _, _, _, _, _]) hc dX11_trades_171 rfl (Nat.le_of_ble_eq_true rfl) rfl ?_
          refine j_iinc (L' := [_, _, _, _, _, _]) hc dX11_trades_174 rfl (Nat.le_of_ble_eq_true rfl) rfl ?_
          refine j_goto (tgt := 122) hc dX11_trades_177 (by decide) ?_
          obtain ⟨zm2, rfl⟩ : ∃ x, zm = x + 1 := ⟨zm - 1, by omega⟩
          have zst : gsN D (ySell E) (zm2 + 1) (e, n, p) = gsN D (ySell E) zm2 (e + 1, n - 1, p - prS D e) := by simp only [gsN]; rw [if_pos ⟨by omega, by omega⟩]
          rw [zst] at he
          have zS2 := zzmod_zh1
          rw [fu_fu] at zS2
          exact ih zm2 (by omega) (e + 1) (n - 1) _ _ (by omega) (by omega) (by omega) (by omega) he zS2 (by rw [← ezh1]; exact hF.push rfl)
set_option maxRecDepth 100000 in
set_option maxHeartbeats 4000000 in
theorem lp_X11_trades1 {k : WC} {d : Nat} {w : MC} {h0 : AH} {s : Int → Int} {A : MAs} {l : Int} {D : LaS} {E : LaY} {e0 n0 : Int} (hd : 2 ≤ d) (hM : MlD A l D E) (hD : LOK D) (hE : YOK E) (hl : s 37 = l)  (hc : Cx w k d 0 0 mdX11_trades) : ∀ (zm : Nat) (e n p : Int) (h : AH), (yGr E - n).toNat = zm → 0 ≤ e → 0 ≤ n → e + n ≤ 100 → Ends w 0 0 (TrP s A h0 (gbN D (yBuy E) (yGr E) zm (e, n, p))) → MdS h (fu s 48 p) A → Fr (fun z => z = (70, 0)) h0 h → J w 0 0 51 [some (vR (70, 0)), some (vI e0), some (vI n0), some (vI e), some (vI n), some (vI 1)] [] h := by
  intro zm
  induction zm using Nat.strongRecOn with
  | _ zm ih =>
    intro e n p h hm he0 hn0 hen he hS hF
    obtain ⟨⟨zl0, zl1⟩, mSe, mNe, mPa, mCo, mMi, mRo, mLa, mRn, mHv, mBu, mSl, mGr, mTb⟩ := id hM
    obtain ⟨d1, d2, d3, d4, d5, d6, d7, d8, d9, d10, d11, d12, d13⟩ := id hD
    obtain ⟨y1, y2, y3, y4, y5, y6, y7, y8, y9, y10⟩ := id hE
    have zl37 : fu s 48 p 37 = l := hl
    have zpr := prS_lo hD e
    refine j_iload hc dX11_trades_51 rfl ?_
    refine j_if_eq (b := 0) (tgt := 122) hc dX11_trades_53 (by decide) ⟨by omega, by omega⟩ (fun zc1 => ?_) (fun zc1 => ?_)
    · exact absurd zc1 (by decide)
    · refine j_aload_n hc dX11_trades_56 rfl ?_
      refine j_aload_n hc dX11_trades_57 rfl ?_
      refine j_get hc dX11_trades_58 fX11_278 hS.1 rfl ?_
      rw [zl37]
      refine j_iload_n hc dX11_trades_61 rfl ?_
      refine j_callV (d' := d - 1) hc dX11_trades_62 vX11_269 hS.1 (ev_X11_priceAt (by omega) hS hM hD hE (by omega) (by omega)) rfl (by omega) (by omega) (by omega) rfl rfl (Nat.le_of_ble_eq_true rfl) (ret1 ?_)
      refine j_aload_n hc dX11_trades_65 rfl ?_
      refine j_get hc dX11_trades_66 fX11_52 hS.1 rfl ?_
      refine j_aload_n hc dX11_trades_69 rfl ?_
      refine j_get hc dX11_trades_70 fX11_278 hS.1 rfl ?_
      rw [zl37]
      refine j_iald hc dX11_trades_73 hS.2.2.2.2.2.2.2.2.2.2.2.2.2.2.2.1 (by omega) (by omega) ?_
      rw [mBu]
      refine j_icmp_ge (tgt := 122) hc dX11_trades_74 (by decide) ⟨by omega, by omega⟩ ⟨by omega, by omega⟩ (fun zc2 => ?_) (fun zc2 => ?_)
      · refine j_iload hc dX11_trades_122 rfl ?_
        refine j_if_ne (b := 0) (tgt := 180) hc dX11_trades_124 (by decide) ⟨by omega, by omega⟩ (fun zc3 => ?_) (fun zc3 => ?_)
        · refine j_iload hc dX11_trades_180 rfl ?_
          exact j_iret hc he dX11_trades_182 rfl (by omega) (by omega) ⟨_, rfl, by rw [gbN_no _ (fun z => by have z1 : n < yGr E := z.1; have z2 : prS D e < yBuy E := z.2.1; have z3 : 0 < e := z.2.2; omega)], by rw [gbN_no _ (fun z => by have z1 : n < yGr E := z.1; have z2 : prS D e < yBuy E := z.2.1; have z3 : 0 < e := z.2.2; omega)]; exact hS, hF⟩
        · exact absurd zc3 (by decide)
      · refine j_iload hc dX11_trades_77 rfl ?_
        refine j_aload_n hc dX11_trades_79 rfl ?_
        refine j_get hc dX11_trades_80 fX11_58 hS.1 rfl ?_
        refine j_aload_n hc dX11_trades_83 rfl ?_
        refine j_get hc dX11_trades_84 fX11_278 hS.1 rfl ?_
        rw [zl37]
        refine j_iald hc dX11_trades_87 hS.2.2.2.2.2.2.2.2.2.2.2.2.2.2.2.2.2.1 (by omega) (by omega) ?_
        rw [mGr]
        refine j_icmp_ge (tgt := 122) hc dX11_trades_88 (by decide) ⟨by omega, by omega⟩ ⟨by omega, by omega⟩ (fun zc4 => ?_) (fun zc4 => ?_)
        · refine j_iload hc dX11_trades_122 rfl ?_
          refine j_if_ne (b := 0) (tgt := 180) hc dX11_trades_124 (by decide) ⟨by omega, by omega⟩ (fun zc5 => ?_) (fun zc5 => ?_)
          · refine j_iload hc dX11_trades_180 rfl ?_
            exact j_iret hc he dX11_trades_182 rfl (by omega) (by omega) ⟨_, rfl, by rw [gbN_no _ (fun z => by have z1 : n < yGr E := z.1; have z2 : prS D e < yBuy E := z.2.1; have z3 : 0 < e := z.2.2; omega)], by rw [gbN_no _ (fun z => by have z1 : n < yGr E := z.1; have z2 : prS D e < yBuy E := z.2.1; have z3 : 0 < e := z.2.2; omega)]; exact hS, hF⟩
          · exact absurd zc5 (by decide)
        · refine j_iload_n hc dX11_trades_91 rfl ?_
          refine j_if_le (b := 0) (tgt := 122) hc dX11_trades_92 (by decide) ⟨by omega, by omega⟩ (fun zc6 => ?_) (fun zc6 => ?_)
          · refine j_iload hc dX11_trades_122 rfl ?_
            refine j_if_ne (b := 0) (tgt := 180) hc dX11_trades_124 (by decide) ⟨by omega, by omega⟩ (fun zc7 => ?_) (fun zc7 => ?_)
            · refine j_iload hc dX11_trades_180 rfl ?_
              exact j_iret hc he dX11_trades_182 rfl (by omega) (by omega) ⟨_, rfl, by rw [gbN_no _ (fun z => by have z1 : n < yGr E := z.1; have z2 : prS D e < yBuy E := z.2.1; have z3 : 0 < e := z.2.2; omega)], by rw [gbN_no _ (fun z => by have z1 : n < yGr E := z.1; have z2 : prS D e < yBuy E := z.2.1; have z3 : 0 < e := z.2.2; omega)]; exact hS, hF⟩
            · exact absurd zc7 (by decide)
          · refine j_aload_n hc dX11_trades_95 rfl ?_
            refine j_dup hc dX11_trades_96 rfl ?_
            refine j_get hc dX11_trades_97 fX11_367 hS.1 rfl ?_
            refine j_aload_n hc dX11_trades_100 rfl ?_
            refine j_aload_n hc dX11_trades_101 rfl ?_
            refine j_get hc dX11_trades_102 fX11_278 hS.1 rfl ?_
            rw [zl37]
            refine j_iload_n hc dX11_trades_105 rfl ?_
            refine j_callV (d' := d - 1) hc dX11_trades_106 vX11_269 hS.1 (ev_X11_priceAt (by omega) hS hM hD hE (by omega) (by omega)) rfl (by omega) (by omega) (by omega) rfl rfl (Nat.le_of_ble_eq_true rfl) (ret1 ?_)
            refine j_iadd hc dX11_trades_109 ?_
            refine j_put  hc dX11_trades_110 pX11_367 hS.1 rfl mset_48 ?_
            generalize ezh1 : up _ _ _ = zh1
            have zzmod_zh1 := MdS.pf ezh1 hS
            refine j_iinc (L' := [_, _, _, _, _, _]) hc dX11_trades_113 rfl (Nat.le_of_ble_eq_true rfl) rfl ?_
            refine j_iinc (L' := [_, _, _, _, _, _]) hc dX11_trades_116 rfl (Nat.le_of_ble_eq_true rfl) rfl ?_
            refine j_goto (tgt := 51) hc dX11_trades_119 (by decide) ?_
            obtain ⟨zm2, rfl⟩ : ∃ x, zm = x + 1 := ⟨zm - 1, by omega⟩
            have zst : gbN D (yBuy E) (yGr E) (zm2 + 1) (e, n, p) = gbN D (yBuy E) (yGr E) zm2 (e - 1, n + 1, p + prS D e) := by simp only [gbN]; rw [if_pos ⟨by omega, by omega, by omega⟩]
            rw [zst] at he
            have zS2 := zzmod_zh1
            rw [fu_fu] at zS2
            exact ih zm2 (by omega) (e - 1) (n + 1) _ _ (by omega) (by omega) (by omega) (by omega) he zS2 (by rw [← ezh1]; exact hF.push rfl)
set_option maxRecDepth 100000 in
set_option maxHeartbeats 4000000 in
theorem ev_X11_trades {k : WC} {d : Nat} {h : AH} {s : Int → Int} {A : MAs} {l : Int} {D : LaS} {E : LaY} {e n : Int} (hd : 2 ≤ d) (hS : MdS h s A) (hM : MlD A l D E) (hD : LOK D) (hE : YOK E) (hl : s 37 = l) (he0 : 0 ≤ e) (hn0 : 0 ≤ n) (hen : e + n ≤ 100) : Ev k d mdX11_trades h [vR (70, 0), vI e, vI n] 0 0 (TrP s A h (gtS D E (e, n, s 48))) := by
  obtain ⟨⟨zl0, zl1⟩, mSe, mNe, mPa, mCo, mMi, mRo, mLa, mRn, mHv, mBu, mSl, mGr, mTb⟩ := id hM
  obtain ⟨d1, d2, d3, d4, d5, d6, d7, d8, d9, d10, d11, d12, d13⟩ := id hD
  obtain ⟨y1, y2, y3, y4, y5, y6, y7, y8, y9, y10⟩ := id hE
  have zpr := prS_lo hD e
  refine Ev.mk (by decide +kernel) [_, _, _, _, _, _] rfl (Nat.le_of_ble_eq_true rfl) (fun w hc he => ?_)
  refine j_iload_n hc dX11_trades_0 rfl ?_
  refine j_istore_n (L' := [_, _, _, _, _, _]) hc dX11_trades_1 (Nat.le_of_ble_eq_true rfl) rfl ?_
  refine j_iload_n hc dX11_trades_2 rfl ?_
  refine j_istore (L' := [_, _, _, _, _, _]) hc dX11_trades_3 (Nat.le_of_ble_eq_true rfl) rfl ?_
  refine j_aload_n hc dX11_trades_5 rfl ?_
  refine j_aload_n hc dX11_trades_6 rfl ?_
  refine j_get hc dX11_trades_7 fX11_278 hS.1 rfl ?_
  rw [hl]
  refine j_iload_n hc dX11_trades_10 rfl ?_
  refine j_callV (d' := d - 1) hc dX11_trades_11 vX11_269 hS.1 (ev_X11_priceAt (by omega) hS hM hD hE (by omega) (by omega)) rfl (by omega) (by omega) (by omega) rfl rfl (Nat.le_of_ble_eq_true rfl) (ret1 ?_)
  refine j_aload_n hc dX11_trades_14 rfl ?_
  refine j_get hc dX11_trades_15 fX11_52 hS.1 rfl ?_
  refine j_aload_n hc dX11_trades_18 rfl ?_
  refine j_get hc dX11_trades_19 fX11_278 hS.1 rfl ?_
  rw [hl]
  refine j_iald hc dX11_trades_22 hS.2.2.2.2.2.2.2.2.2.2.2.2.2.2.2.1 (by omega) (by omega) ?_
  rw [mBu]
  refine j_icmp_ge (tgt := 48) hc dX11_trades_23 (by decide) ⟨by omega, by omega⟩ ⟨by omega, by omega⟩ (fun zc1 => ?_) (fun zc1 => ?_)
  · refine j_iconst hc dX11_trades_48 ?_
    refine j_istore (L' := [_, _, _, _, _, _]) hc dX11_trades_49 (Nat.le_of_ble_eq_true rfl) rfl ?_
    have zb : ¬ gbB D (yBuy E) (yGr E) (e, n, s 48) := fun z => by have z1 : n < yGr E := z.1; have z2 : prS D e < yBuy E := z.2.1; have z3 : 0 < e := z.2.2; omega
    refine j_iload hc dX11_trades_51 rfl ?_
    refine j_if_eq (b := 0) (tgt := 122) hc dX11_trades_53 (by decide) ⟨by omega, by omega⟩ (fun zc9 => ?_) (fun zc9 => absurd rfl zc9)
    exact lp_X11_trades2 hd hM hD hE hl hc _ e n (s 48) h rfl he0 hn0 hen (by unfold gtS at he; rw [if_neg zb] at he; exact he) (by rw [fu_self]; exact hS) (Fr.rf _ _)
  · refine j_iload hc dX11_trades_26 rfl ?_
    refine j_aload_n hc dX11_trades_28 rfl ?_
    refine j_get hc dX11_trades_29 fX11_58 hS.1 rfl ?_
    refine j_aload_n hc dX11_trades_32 rfl ?_
    refine j_get hc dX11_trades_33 fX11_278 hS.1 rfl ?_
    rw [hl]
    refine j_iald hc dX11_trades_36 hS.2.2.2.2.2.2.2.2.2.2.2.2.2.2.2.2.2.1 (by omega) (by omega) ?_
    rw [mGr]
    refine j_icmp_ge (tgt := 48) hc dX11_trades_37 (by decide) ⟨by omega, by omega⟩ ⟨by omega, by omega⟩ (fun zc2 => ?_) (fun zc2 => ?_)
    · refine j_iconst hc dX11_trades_48 ?_
      refine j_istore (L' := [_, _, _, _, _, _]) hc dX11_trades_49 (Nat.le_of_ble_eq_true rfl) rfl ?_
      have zb : ¬ gbB D (yBuy E) (yGr E) (e, n, s 48) := fun z => by have z1 : n < yGr E := z.1; have z2 : prS D e < yBuy E := z.2.1; have z3 : 0 < e := z.2.2; omega
      refine j_iload hc dX11_trades_51 rfl ?_
      refine j_if_eq (b := 0) (tgt := 122) hc dX11_trades_53 (by decide) ⟨by omega, by omega⟩ (fun zc9 => ?_) (fun zc9 => absurd rfl zc9)
      exact lp_X11_trades2 hd hM hD hE hl hc _ e n (s 48) h rfl he0 hn0 hen (by unfold gtS at he; rw [if_neg zb] at he; exact he) (by rw [fu_self]; exact hS) (Fr.rf _ _)
    · refine j_iload_n hc dX11_trades_40 rfl ?_
      refine j_if_le (b := 0) (tgt := 48) hc dX11_trades_41 (by decide) ⟨by omega, by omega⟩ (fun zc3 => ?_) (fun zc3 => ?_)
      · refine j_iconst hc dX11_trades_48 ?_
        refine j_istore (L' := [_, _, _, _, _, _]) hc dX11_trades_49 (Nat.le_of_ble_eq_true rfl) rfl ?_
        have zb : ¬ gbB D (yBuy E) (yGr E) (e, n, s 48) := fun z => by have z1 : n < yGr E := z.1; have z2 : prS D e < yBuy E := z.2.1; have z3 : 0 < e := z.2.2; omega
        refine j_iload hc dX11_trades_51 rfl ?_
        refine j_if_eq (b := 0) (tgt := 122) hc dX11_trades_53 (by decide) ⟨by omega, by omega⟩ (fun zc9 => ?_) (fun zc9 => absurd rfl zc9)
        exact lp_X11_trades2 hd hM hD hE hl hc _ e n (s 48) h rfl he0 hn0 hen (by unfold gtS at he; rw [if_neg zb] at he; exact he) (by rw [fu_self]; exact hS) (Fr.rf _ _)
      · refine j_iconst hc dX11_trades_44 ?_
        refine j_goto (tgt := 49) hc dX11_trades_45 (by decide) ?_
        refine j_istore (L' := [_, _, _, _, _, _]) hc dX11_trades_49 (Nat.le_of_ble_eq_true rfl) rfl ?_
        have zb : gbB D (yBuy E) (yGr E) (e, n, s 48) := ⟨by show n < _; omega, by show prS D e < _; omega, by show 0 < e; omega⟩
        exact lp_X11_trades1 hd hM hD hE hl hc _ e n (s 48) h rfl he0 hn0 hen (by unfold gtS at he; rw [if_pos zb] at he; exact he) (by rw [fu_self]; exact hS) (Fr.rf _ _)
set_option maxRecDepth 100000 in
set_option maxHeartbeats 4000000 in
theorem ev_X11_note {k : WC} {d : Nat} {h : AH} {s : Int → Int} {A : MAs} {l : Int} {D : LaS} {E : LaY} {nm : Nm} {N : Nat} {f : Int → Int} {p a ke e pc st ca : Int} (hd : 3 ≤ d) (hS : MdS h s A) (hM : MlD A l D E) (hD : LOK D) (hE : YOK E) (hl : s 37 = l) (hnm : ¬ isSt nm) (zX : h nm = some (oI N f)) (hp0 : 0 ≤ p) (hp1 : p + 6 < N) (hN : N ≤ 1000) (he0 : 0 ≤ e) (he1 : e ≤ 1000) : Ev k d mdX11_note h [vR (70, 0), vR nm, vI p, vI a, vI ke, vI e, vI pc, vI st, vI ca] 0 0 (pn fun h' => h' nm = some (oI N (wrS f p a ke (min (lNe D) e) pc (max 0 (lNe D - e)) st ca)) ∧ Fr (fun z => z = nm) h h') := by
  obtain ⟨⟨zl0, zl1⟩, mSe, mNe, mPa, mCo, mMi, mRo, mLa, mRn, mHv, mBu, mSl, mGr, mTb⟩ := id hM
  obtain ⟨d1, d2, d3, d4, d5, d6, d7, d8, d9, d10, d11, d12, d13⟩ := id hD
  obtain ⟨y1, y2, y3, y4, y5, y6, y7, y8, y9, y10⟩ := id hE
  refine Ev.mk (by decide +kernel) [_, _, _, _, _, _, _, _, _] rfl (Nat.le_of_ble_eq_true rfl) (fun w hc he => ?_)
  refine j_aload_n hc dX11_note_0 rfl ?_
  refine j_iload_n hc dX11_note_1 rfl ?_
  refine j_iload_n hc dX11_note_2 rfl ?_
  refine j_iast hc dX11_note_3 zX (by omega) (by omega) ?_
  generalize ezh1 : up _ _ _ = zh1
  have zzmod_zh1 := MdS.mv ezh1 (by exact hnm) hS
  have zX_zh1 := (congrFun ezh1 _).symm.trans (up_same _ _ _)
  refine j_aload_n hc dX11_note_4 rfl ?_
  refine j_iload_n hc dX11_note_5 rfl ?_
  refine j_iconst hc dX11_note_6 ?_
  refine j_iadd hc dX11_note_7 ?_
  refine j_iload hc dX11_note_8 rfl ?_
  refine j_iast hc dX11_note_10 zX_zh1 (by omega) (by omega) ?_
  generalize ezh2 : up _ _ _ = zh2
  have zzmod_zh2 := MdS.mv ezh2 (by exact hnm) zzmod_zh1
  have zX_zh2 := (congrFun ezh2 _).symm.trans (up_same _ _ _)
  refine j_aload_n hc dX11_note_11 rfl ?_
  refine j_iload_n hc dX11_note_12 rfl ?_
  refine j_iconst hc dX11_note_13 ?_
  refine j_iadd hc dX11_note_14 ?_
  refine j_aload_n hc dX11_note_15 rfl ?_
  refine j_get hc dX11_note_16 fX11_19 zzmod_zh2.1 rfl ?_
  refine j_aload_n hc dX11_note_19 rfl ?_
  refine j_get hc dX11_note_20 fX11_278 zzmod_zh2.1 rfl ?_
  rw [hl]
  refine j_iald hc dX11_note_23 zzmod_zh2.2.2.2.2.1 (by omega) (by omega) ?_
  rw [mNe]
  refine j_iload hc dX11_note_24 rfl ?_
  refine j_mmin hc dX11_note_26 mX11_169 mo_min (by exact ⟨by omega, by omega⟩) ⟨by omega, by omega⟩ (by omega) (by omega) rfl (by omega) (Nat.le_of_ble_eq_true rfl) ?_
  refine j_iast hc dX11_note_29 zX_zh2 (by omega) (by omega) ?_
  generalize ezh3 : up _ _ _ = zh3
  have zzmod_zh3 := MdS.mv ezh3 (by exact hnm) zzmod_zh2
  have zX_zh3 := (congrFun ezh3 _).symm.trans (up_same _ _ _)
  refine j_aload_n hc dX11_note_30 rfl ?_
  refine j_iload_n hc dX11_note_31 rfl ?_
  refine j_iconst hc dX11_note_32 ?_
  refine j_iadd hc dX11_note_33 ?_
  refine j_iload hc dX11_note_34 rfl ?_
  refine j_iast hc dX11_note_36 zX_zh3 (by omega) (by omega) ?_
  generalize ezh4 : up _ _ _ = zh4
  have zzmod_zh4 := MdS.mv ezh4 (by exact hnm) zzmod_zh3
  have zX_zh4 := (congrFun ezh4 _).symm.trans (up_same _ _ _)
  refine j_aload_n hc dX11_note_37 rfl ?_
  refine j_iload_n hc dX11_note_38 rfl ?_
  refine j_iconst hc dX11_note_39 ?_
  refine j_iadd hc dX11_note_40 ?_
  refine j_aload_n hc dX11_note_41 rfl ?_
  refine j_aload_n hc dX11_note_42 rfl ?_
  refine j_get hc dX11_note_43 fX11_278 zzmod_zh4.1 rfl ?_
  rw [hl]
  refine j_iload hc dX11_note_46 rfl ?_
  refine j_callV (d' := d - 1) hc dX11_note_48 vX11_272 zzmod_zh4.1 (ev_X11_hungry (by omega) zzmod_zh4 hM hD hE ⟨by omega, by omega⟩ ⟨by omega, by omega⟩) rfl (by omega) (by omega) (by omega) rfl rfl (Nat.le_of_ble_eq_true rfl) (ret1 ?_)
  refine j_iast hc dX11_note_51 zX_zh4 (by omega) (by omega) ?_
  generalize ezh5 : up _ _ _ = zh5
  have zzmod_zh5 := MdS.mv ezh5 (by exact hnm) zzmod_zh4
  have zX_zh5 := (congrFun ezh5 _).symm.trans (up_same _ _ _)
  refine j_aload_n hc dX11_note_52 rfl ?_
  refine j_iload_n hc dX11_note_53 rfl ?_
  refine j_iconst hc dX11_note_54 ?_
  refine j_iadd hc dX11_note_55 ?_
  refine j_iload hc dX11_note_56 rfl ?_
  refine j_iast hc dX11_note_58 zX_zh5 (by omega) (by omega) ?_
  generalize ezh6 : up _ _ _ = zh6
  have zzmod_zh6 := MdS.mv ezh6 (by exact hnm) zzmod_zh5
  have zX_zh6 := (congrFun ezh6 _).symm.trans (up_same _ _ _)
  refine j_aload_n hc dX11_note_59 rfl ?_
  refine j_iload_n hc dX11_note_60 rfl ?_
  refine j_bipush hc dX11_note_61 (by decide) ?_
  refine j_iadd hc dX11_note_63 ?_
  refine j_iload hc dX11_note_64 rfl ?_
  refine j_iast hc dX11_note_66 zX_zh6 (by omega) (by omega) ?_
  generalize ezh7 : up _ _ _ = zh7
  have zzmod_zh7 := MdS.mv ezh7 (by exact hnm) zzmod_zh6
  have zX_zh7 := (congrFun ezh7 _).symm.trans (up_same _ _ _)
  exact j_vret hc he dX11_note_67 rfl (by omega) (by omega) ⟨rfl, zX_zh7, (by rw [← ezh7]; exact Fr.push ((by rw [← ezh6]; exact Fr.push ((by rw [← ezh5]; exact Fr.push ((by rw [← ezh4]; exact Fr.push ((by rw [← ezh3]; exact Fr.push ((by rw [← ezh2]; exact Fr.push ((by rw [← ezh1]; exact Fr.push (Fr.rf _ _) rfl)) rfl)) rfl)) rfl)) rfl)) rfl)) rfl)⟩
