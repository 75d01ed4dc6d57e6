/-! ===== the reference reads a land: readLand ===== -/
theorem x0_ok {cn hv ws sk wt : Int → Int} {v : Int} (hz : zrC cn hv ws) (h1 : 1 ≤ v) (h4 : v ≤ 4) : XOK (xYe (x0S cn hv ws sk wt) v) := by
  have hcn : ∀ m : Nat, m ≤ 100 → rkN cn m = 0 := fun m => by
    induction m with
    | zero => exact fun _ => rfl
    | succ m ih =>
      intro hm
      simp only [rkN]
      rw [ih (by omega), hz.1 _ (by omega) (by omega)]
      rfl
  refine ⟨h1, h4, Int.le_refl 0, ?_, Int.le_refl 0, ?_, ?_, ?_, Int.le_refl 20, Int.le_refl 0, ?_, Int.le_refl 0, Int.le_refl 0, (hcn _ (by decide)).symm, fun p p0 p1 => ?_, fun s z0 z1 => ?_⟩
  · show (0 : Int) ≤ 30; omega
  · show (0 : Int) ≤ 20; omega
  · show (0 : Int) ≠ 1; omega
  · show (0 : Int) ≤ 20; omega
  · show (0 : Int) ≤ 20; omega
  · show 0 ≤ cn p ∧ cn p ≤ 180
    rw [hz.1 p p0 (by omega)]; omega
  · show 0 ≤ hv s ∧ hv s ≤ 4 ∧ 0 ≤ ws s ∧ ws s ≤ 12 ∧ ws s = suN wt (4 * s) (hv s).toNat ∧ ∀ i : Int, 0 ≤ i → i < hv s → 0 ≤ sk (4 * s + i) ∧ sk (4 * s + i) ≤ 20 ∧ 1 ≤ wt (4 * s + i) ∧ wt (4 * s + i) ≤ 9
    rw [hz.2.1 s z0 z1, hz.2.2 s z0 z1]
    exact ⟨Int.le_refl 0, by omega, Int.le_refl 0, by omega, rfl, fun i i0 i1 => by omega⟩
def DrT (A : MAs) (l : Int) (X : DrS) : Prop := A 6 l = xSe X ∧ A 8 l = xEa X ∧ A 13 l = xCo X ∧ A 14 l = xMi X ∧ A 15 l = xRo X ∧ ∀ j : Int, 0 ≤ j → j < xEa X → PaQ (xCn X) (fun j => A 7 (180 * l + j)) j
def HvQ (A : MAs) (l : Int) (X : DrS) (q : Int) : Prop := A 12 (4 * l + q) = xHv X q ∧ ∀ i : Int, 0 ≤ i → i < xHv X q → A 10 (4 * (4 * l + q) + i) = xSk X (q * 4 + i) ∧ A 11 (4 * (4 * l + q) + i) = xWt X (q * 4 + i)
def FzQ (A : MAs) (l : Int) (X : DrS) (q : Int) : Prop := (xHv X q = 0 → A 12 (4 * l + q) = 1 ∧ A 10 (4 * (4 * l + q)) = 0 ∧ A 11 (4 * (4 * l + q)) = 1) ∧ (xHv X q ≠ 0 → HvQ A l X q)
def DrF (A : MAs) (l : Int) (X : DrS) : Prop := DrT A l X ∧ ∀ q : Int, 0 ≤ q → q < 4 → FzQ A l X q
theorem DrM.t {A : MAs} {l : Int} {X : DrS} (h : DrM A l X) : DrT A l X ∧ ∀ q : Int, 0 ≤ q → q < 4 → HvQ A l X q := ⟨⟨h.1, h.2.1, h.2.2.2.1, h.2.2.2.2.1, h.2.2.2.2.2.1, h.2.2.2.2.2.2.2⟩, h.2.2.2.2.2.2.1⟩
/-- how a land's whole reading comes of its statements -/
def lnR (r : RdS) (n : Int) (R : Int × DrS) : Prop := (r.1 ≠ -1 → R.1 = r.1) ∧ (r.1 = -1 → (r.2.1 < n → R.1 = r.2.1) ∧ (¬ r.2.1 < n → R = (-1, r.2.2)))
def RLP (s : Int → Int) (A : MAs) (l : Int) (R : Int × DrS) (h : AH) : Option AV → AH → Prop := pe fun v h' => v = vI R.1 ∧ ∃ (s' : Int → Int) (A' : MAs), MdS h' s' A' ∧ SmR s s' ∧ AgL A A' l ∧ Fr isLm h h' ∧ (R.1 = -1 → DrF A' l R.2)
theorem lsN_dg {b : Int → Int} {n i : Int} {X : DrS} (hi : 0 ≤ i) (hd : dgS (hrS b n i)) : ∀ m : Nat, lsN b n m i X = (-1, i, X)
  | 0 => rfl
  | m + 1 => by
    have l1 : i < n := hrS_lt (b := b) hi (by omega)
    have hb : hrS b n i = b i := by unfold hrS; rw [if_pos ⟨hi, l1⟩]
    have e : skS b n i = i := skS_stop (fun z => by omega)
    simp only [lsN]
    rw [e, if_neg (by omega)]
theorem lnR_dg {b : Int → Int} {n i : Int} {X : DrS} {m : Nat} {R : Int × DrS} (hi : 0 ≤ i) (hd : dgS (hrS b n i)) (h : lnR (lsN b n m i X) n R) : R.1 = i := by
  rw [lsN_dg hi hd] at h
  exact (h.2 rfl).1 (show i < n from hrS_lt (b := b) hi (by omega))
theorem lsN_no {b : Int → Int} {n i : Int} {X : DrS} (h1 : i ≤ n) (hd : hrS b n (skS b n i) ≠ 59) : ∀ m : Nat, n - i ≤ m → lsN b n m i X = (-1, skS b n i, X)
  | 0, hm => by
    have e : skS b n i = i := skS_stop (fun z => by omega)
    rw [e]; rfl
  | m + 1, _ => by
    simp only [lsN]
    rw [if_neg hd]
set_option maxRecDepth 100000 in
set_option maxHeartbeats 4000000 in
theorem rl_bad {k : WC} {d : Nat} {w : MC} {h0 h : AH} {s0 s : Int → Int} {A0 A : MAs} {n l : Int} {R : Int × DrS} {z2 : Option AV} (hd : 1 ≤ d) (hn : n ≤ 240) (hS : MdS h s A) (hw : s 4 ≠ -1) (hw2 : -1 ≤ s 4 ∧ s 4 ≤ n) (hR : s 4 = R.1) (hm : SmR s0 s) (hA : AgL A0 A l) (hF : Fr isLm h0 h) (hc : Cx w k d 0 0 mdX11_readLand) (he : Ends w 0 0 (RLP s0 A0 l R h0)) : J w 0 0 107 [some (vR (70, 0)), some (vI l), z2] [] h := by
  refine j_aload_n hc dX11_readLand_107 rfl ?_
  refine j_get hc dX11_readLand_108 fX11_132 hS.1 rfl ?_
  refine j_iconst hc dX11_readLand_111 ?_
  refine j_icmp_ne (tgt := 142) hc dX11_readLand_112 (by decide) (by exact ⟨by omega, by omega⟩) ⟨by omega, by omega⟩ (fun zc1 => ?_) (fun zc1 => ?_)
  · refine j_aload_n hc dX11_readLand_142 rfl ?_
    refine j_get hc dX11_readLand_143 fX11_132 hS.1 rfl ?_
    refine j_iconst hc dX11_readLand_146 ?_
    refine j_icmp_ne (tgt := 162) hc dX11_readLand_147 (by decide) (by exact ⟨by omega, by omega⟩) ⟨by omega, by omega⟩ (fun zc2 => ?_) (fun zc2 => ?_)
    · refine j_iconst hc dX11_readLand_162 ?_
      refine j_istore_n (L' := [_, _, _]) hc dX11_readLand_163 (Nat.le_of_ble_eq_true rfl) rfl ?_
      refine j_iload_n hc dX11_readLand_164 rfl ?_
      refine j_iconst hc dX11_readLand_165 ?_
      refine j_icmp_ge (tgt := 204) hc dX11_readLand_166 (by decide) ⟨by omega, by omega⟩ ⟨by omega, by omega⟩ (fun zc3 => ?_) (fun zc3 => ?_)
      · exact absurd zc3 (by decide)
      · refine j_aload_n hc dX11_readLand_169 rfl ?_
        refine j_get hc dX11_readLand_170 fX11_132 hS.1 rfl ?_
        refine j_iconst hc dX11_readLand_173 ?_
        refine j_icmp_ne (tgt := 204) hc dX11_readLand_174 (by decide) (by exact ⟨by omega, by omega⟩) ⟨by omega, by omega⟩ (fun zc4 => ?_) (fun zc4 => ?_)
        · refine j_aload_n hc dX11_readLand_204 rfl ?_
          refine j_get hc dX11_readLand_205 fX11_132 hS.1 rfl ?_
          exact j_iret hc he dX11_readLand_208 rfl (by omega) (by omega) ⟨_, rfl, congrArg vI hR, _, _, hS, hm, hA, hF, fun z => absurd (hR.trans z) hw⟩
        · exact absurd zc4 hw
    · exact absurd zc2 hw
  · exact absurd zc1 hw
set_option maxRecDepth 100000 in
set_option maxHeartbeats 4000000 in
theorem rl_bad2 {k : WC} {d : Nat} {w : MC} {h0 h : AH} {s0 s : Int → Int} {A0 A : MAs} {n l : Int} {R : Int × DrS} (hd : 1 ≤ d) (hn : n ≤ 240) (hS : MdS h s A) (hw : s 4 ≠ -1) (hw2 : -1 ≤ s 4 ∧ s 4 ≤ n) (hR : s 4 = R.1) (hm : SmR s0 s) (hA : AgL A0 A l) (hF : Fr isLm h0 h) (hc : Cx w k d 0 0 mdX11_readLand) (he : Ends w 0 0 (RLP s0 A0 l R h0)) : J w 0 0 164 [some (vR (70, 0)), some (vI l), some (vI 0)] [] h := by
  refine j_iload_n hc dX11_readLand_164 rfl ?_
  refine j_iconst hc dX11_readLand_165 ?_
  refine j_icmp_ge (tgt := 204) hc dX11_readLand_166 (by decide) ⟨by omega, by omega⟩ ⟨by omega, by omega⟩ (fun zc1 => ?_) (fun zc1 => ?_)
  · exact absurd zc1 (by decide)
  · refine j_aload_n hc dX11_readLand_169 rfl ?_
    refine j_get hc dX11_readLand_170 fX11_132 hS.1 rfl ?_
    refine j_iconst hc dX11_readLand_173 ?_
    refine j_icmp_ne (tgt := 204) hc dX11_readLand_174 (by decide) (by exact ⟨by omega, by omega⟩) ⟨by omega, by omega⟩ (fun zc2 => ?_) (fun zc2 => ?_)
    · refine j_aload_n hc dX11_readLand_204 rfl ?_
      refine j_get hc dX11_readLand_205 fX11_132 hS.1 rfl ?_
      exact j_iret hc he dX11_readLand_208 rfl (by omega) (by omega) ⟨_, rfl, congrArg vI hR, _, _, hS, hm, hA, hF, fun z => absurd (hR.trans z) hw⟩
    · exact absurd zc2 hw
set_option maxRecDepth 100000 in
set_option maxHeartbeats 4000000 in
theorem lp_X11_readLand2 {k : WC} {d : Nat} {w : MC} {h0 : AH} {s0 s : Int → Int} {A0 : MAs} {l : Int} {X : DrS} (hd : 2 ≤ d) (hl0 : 0 ≤ l) (hl6 : l ≤ 6) (hX : XOK X) (h4 : s 4 = -1) (hm : SmR s0 s) (hc : Cx w k d 0 0 mdX11_readLand) (he : Ends w 0 0 (RLP s0 A0 l ((-1, X) : Int × DrS) h0)) : ∀ (zm : Nat) (q : Int) (A : MAs) (h : AH), (4 - q).toNat = zm → 0 ≤ q → q ≤ 4 → DrT A l X → (∀ x : Int, 0 ≤ x → x < q → FzQ A l X x) → (∀ x : Int, q ≤ x → x < 4 → HvQ A l X x) → AgL A0 A l → MdS h s A → Fr isLm h0 h → J w 0 0 164 [some (vR (70, 0)), some (vI l), some (vI q)] [] h := by
  intro zm
  induction zm using Nat.strongRecOn with
  | _ zm ih =>
    intro q A h hm2 hq0_ hq4 hT h1 h2 hA hS hF
    have zhv : ∀ x : Int, 0 ≤ x → x < 4 → 0 ≤ xHv X x ∧ xHv X x ≤ 4 := fun x x0 x1 => ⟨(hX.2.2.2.2.2.2.2.2.2.2.2.2.2.2.2 x x0 x1).1, (hX.2.2.2.2.2.2.2.2.2.2.2.2.2.2.2 x x0 x1).2.1⟩
    refine j_iload_n hc dX11_readLand_164 rfl ?_
    refine j_iconst hc dX11_readLand_165 ?_
    refine j_icmp_ge (tgt := 204) hc dX11_readLand_166 (by decide) ⟨by omega, by omega⟩ ⟨by omega, by omega⟩ (fun zc1 => ?_) (fun zc1 => ?_)
    · refine j_aload_n hc dX11_readLand_204 rfl ?_
      refine j_get hc dX11_readLand_205 fX11_132 hS.1 rfl ?_
      exact j_iret hc he dX11_readLand_208 rfl (by omega) (by omega) ⟨_, rfl, congrArg vI h4, _, _, hS, hm, hA, hF, fun _ => ⟨hT, fun x x0 x1 => h1 x x0 (by omega)⟩⟩
    · refine j_aload_n hc dX11_readLand_169 rfl ?_
      refine j_get hc dX11_readLand_170 fX11_132 hS.1 rfl ?_
      refine j_iconst hc dX11_readLand_173 ?_
      refine j_icmp_ne (tgt := 204) hc dX11_readLand_174 (by decide) (by rw [h4]; exact ⟨by omega, by omega⟩) ⟨by omega, by omega⟩ (fun zc2 => ?_) (fun zc2 => ?_)
      · exact absurd h4 zc2
      · have hqq := h2 q (by omega) (by omega)
        have hq0 := hqq.1
        have zhq := zhv q (by omega) (by omega)
        refine j_aload_n hc dX11_readLand_177 rfl ?_
        refine j_get hc dX11_readLand_178 fX11_31 hS.1 rfl ?_
        refine j_iconst hc dX11_readLand_181 ?_
        refine j_iload_n hc dX11_readLand_182 rfl ?_
        refine j_imul hc dX11_readLand_183 ?_
        refine j_iload_n hc dX11_readLand_184 rfl ?_
        refine j_iadd hc dX11_readLand_185 ?_
        refine j_iald hc dX11_readLand_186 hS.2.2.2.2.2.2.2.2.1 (by omega) (by omega) ?_
        rw [hq0]
        refine j_if_ne (b := 0) (tgt := 198) hc dX11_readLand_187 (by decide) ⟨by omega, by omega⟩ (fun zc3 => ?_) (fun zc3 => ?_)
        · have zc0 : ¬ xHv X q = 0 := by omega
          refine j_iinc (L' := [_, _, _]) hc dX11_readLand_198 rfl (Nat.le_of_ble_eq_true rfl) rfl ?_
          refine j_goto (tgt := 164) hc dX11_readLand_201 (by decide) ?_
          refine ih (4 - (q + 1)).toNat (by omega) (q + 1) _ _ rfl (by omega) (by omega) hT (fun x x0 x1 => ?_) (fun x x0 x1 => h2 x (by omega) x1) hA hS hF
          by_cases e : x = q
          · subst e
            exact ⟨fun z => absurd z zc0, fun _ => hqq⟩
          · exact h1 x x0 (by omega)
        · have zc0 : xHv X q = 0 := by omega
          refine j_aload_n hc dX11_readLand_190 rfl ?_
          refine j_iload_n hc dX11_readLand_191 rfl ?_
          refine j_iload_n hc dX11_readLand_192 rfl ?_
          refine j_iconst hc dX11_readLand_193 ?_
          refine j_iconst hc dX11_readLand_194 ?_
          refine j_callV (d' := d - 1) hc dX11_readLand_195 vX11_157 hS.1 (ev_X11_addHarvest (mk := 0) (by omega) hS hl0 hl6 (by omega) (by omega) (hq0.trans zc0) (by omega) (by omega)) rfl (by omega) (by omega) (by omega) rfl rfl (Nat.le_of_ble_eq_true rfl) (retN fun zq195 zp195 => ?_)
          obtain ⟨zS9, zF9⟩ := zp195
          refine j_iinc (L' := [_, _, _]) hc dX11_readLand_198 rfl (Nat.le_of_ble_eq_true rfl) rfl ?_
          refine j_goto (tgt := 164) hc dX11_readLand_201 (by decide) ?_
          refine ih (4 - (q + 1)).toNat (by omega) (q + 1) (fuA (fuA (fuA A 10 (fu (A 10) (4 * (4 * l + q) + 0) 0)) 11 (fu (A 11) (4 * (4 * l + q) + 0) 1)) 12 (fu (A 12) (4 * l + q) (0 + 1))) _ rfl (by omega) (by omega) hT (fun x x0 x1 => ?_) (fun x x0 x1 => ?_) (hA.tr (AgL.fh A l _ _ _ _ (by omega) (by omega) (by omega) (by omega))) zS9 (hF.tr (zF9.mono fun z zz => Or.inr (by rcases zz with zz | zz | zz <;> (rw [zz]; decide))))
          · by_cases e : x = q
            · subst e
              exact ⟨fun _ => ⟨fu_same _ _ _, by show fu (A 10) (4 * (4 * l + x) + 0) 0 (4 * (4 * l + x)) = 0; rw [Int.add_zero]; exact fu_same _ _ _, by show fu (A 11) (4 * (4 * l + x) + 0) 1 (4 * (4 * l + x)) = 1; rw [Int.add_zero]; exact fu_same _ _ _⟩, fun z => absurd zc0 z⟩
            · obtain ⟨f1, f2⟩ := h1 x x0 (by omega)
              refine ⟨fun z => ?_, fun z => ?_⟩
              · obtain ⟨g1, g2, g3⟩ := f1 z
                exact ⟨(fu_ne (by omega)).trans g1, (fu_ne (by omega)).trans g2, (fu_ne (by omega)).trans g3⟩
              · obtain ⟨g1, g2⟩ := f2 z
                have zh := (zhv x x0 (by omega))
                exact ⟨(fu_ne (by omega)).trans g1, fun i i0 i1 => ⟨(fu_ne (by omega)).trans (g2 i i0 i1).1, (fu_ne (by omega)).trans (g2 i i0 i1).2⟩⟩
          · obtain ⟨g1, g2⟩ := h2 x (by omega) x1
            have zh := (zhv x (by omega) x1)
            exact ⟨(fu_ne (by omega)).trans g1, fun i i0 i1 => ⟨(fu_ne (by omega)).trans (g2 i i0 i1).1, (fu_ne (by omega)).trans (g2 i i0 i1).2⟩⟩
