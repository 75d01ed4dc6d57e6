/-! ===== the reference: two towns, before the carrying ===== -/
abbrev isTr : Nm → Prop := fun z => isTb z ∨ z = (243, 0)
theorem isTr_mo {z : Nm} (h : isTr z) : isMo z := by
  rcases h with h | h
  · exact isTb_mo h
  · rw [h]; exact Or.inr (by decide)
/-- what is left from before, in one town -/
def ltN (D : LaS) (kq : Int → Int → Int) (rf : Int → Int) (b : Int) : Nat → Int
  | 0 => b
  | i + 1 => leS D (kq ((i : Int) % lSe D) (ltN D kq rf b i + rf i))
theorem ltN_b {D : LaS} (hD : LOK D) {kq : Int → Int → Int} {rf : Int → Int} {b : Int} (hk : kqOK D kq) (hb0 : 0 ≤ b) (hb1 : b ≤ 20) (hr : ∀ i : Int, 0 ≤ i → i < 40 → 0 ≤ rf i ∧ rf i ≤ 20) : ∀ i : Nat, i ≤ 40 → 0 ≤ ltN D kq rf b i ∧ ltN D kq rf b i ≤ 20
  | 0, _ => ⟨hb0, hb1⟩
  | i + 1, hi => by
    have h1 := ltN_b hD hk hb0 hb1 hr i (by omega)
    have h2 := hr i (by omega) (by omega)
    have h3 := hD.1
    have h4 := hk ((i : Int) % lSe D) (ltN D kq rf b i + rf i) (Int.emod_nonneg _ (by omega)) (Int.emod_lt_of_pos _ (by omega)) (by omega) (by omega)
    have h5 := leS_b hD h4.1
    exact ⟨h5.1, by show leS D _ ≤ 20; omega⟩
theorem tyN_lt {D D2 : LaS} (hD : LOK D) (hse : lSe D = lSe D2) {sr sr2 : Int} {kq kq2 : Int → Int → Int} {rf rf2 f0 : Int → Int} {ro b b2 : Int} : ∀ i : Nat, (tyN D D2 sr sr2 kq kq2 rf rf2 ro f0 b b2 i).2 = ((i : Int) % lSe D, ltN D kq rf b i, ltN D2 kq2 rf2 b2 i)
  | 0 => by
    show ((0 : Int), b, b2) = _
    rw [show ((0 : Nat) : Int) = 0 from rfl, Int.zero_emod]
    rfl
  | i + 1 => by
    have h := tyN_lt hD hse (sr := sr) (sr2 := sr2) (kq := kq) (kq2 := kq2) (rf := rf) (rf2 := rf2) (f0 := f0) (ro := ro) (b := b) (b2 := b2) i
    simp only [tyN, ty1]
    rw [h]
    dsimp only
    rw [mod_nx hD (by omega)]
    show _ = (_, leS D _, leS D2 (kq2 ((i : Int) % lSe D2) _))
    rw [← hse]
    rfl
def PhA (D : LaS) (kq : Int → Int → Int) (rf : Int → Int) (b wv : Int) (f : Int → Int) (j : Nat) : Prop := f (7 * (40 * wv + j)) = ltN D kq rf b j + rf j ∧ f (7 * (40 * wv + j) + 1) = kq ((j : Int) % lSe D) (ltN D kq rf b j + rf j) ∧ f (7 * (40 * wv + j) + 5) = 0 ∧ f (7 * (40 * wv + j) + 6) = 0
theorem PhA.same {D : LaS} {kq : Int → Int → Int} {rf : Int → Int} {b wv : Int} {f f' : Int → Int} {j : Nat} (h : PhA D kq rf b wv f j) (q : ∀ z : Int, 7 * (40 * wv + j) ≤ z → z ≤ 7 * (40 * wv + j) + 6 → f' z = f z) : PhA D kq rf b wv f' j := by
  obtain ⟨h0, h1, h5, h6⟩ := h
  exact ⟨(q _ (by omega) (by omega)).trans h0, (q _ (by omega) (by omega)).trans h1, (q _ (by omega) (by omega)).trans h5, (q _ (by omega) (by omega)).trans h6⟩
theorem wrS_0 {f : Int → Int} {p a b c d e g q : Int} : wrS f p a b c d e g q p = a := by
  unfold wrS
  rw [fu_ne (by omega), fu_ne (by omega), fu_ne (by omega), fu_ne (by omega), fu_ne (by omega), fu_ne (by omega), fu_same]
theorem wrS_1 {f : Int → Int} {p a b c d e g q : Int} : wrS f p a b c d e g q (p + 1) = b := by
  unfold wrS
  rw [fu_ne (by omega), fu_ne (by omega), fu_ne (by omega), fu_ne (by omega), fu_ne (by omega), fu_same]
theorem wrS_2 {f : Int → Int} {p a b c d e g q : Int} : wrS f p a b c d e g q (p + 2) = c := by
  unfold wrS
  rw [fu_ne (by omega), fu_ne (by omega), fu_ne (by omega), fu_ne (by omega), fu_same]
theorem wrS_3 {f : Int → Int} {p a b c d e g q : Int} : wrS f p a b c d e g q (p + 3) = d := by
  unfold wrS
  rw [fu_ne (by omega), fu_ne (by omega), fu_ne (by omega), fu_same]
theorem wrS_5 {f : Int → Int} {p a b c d e g q : Int} : wrS f p a b c d e g q (p + 5) = g := by
  unfold wrS
  rw [fu_ne (by omega), fu_same]
theorem wrS_6 {f : Int → Int} {p a b c d e g q : Int} : wrS f p a b c d e g q (p + 6) = q := by
  unfold wrS
  rw [fu_same]
set_option maxRecDepth 100000 in
set_option maxHeartbeats 4000000 in
theorem lp_X11_towns1 {k : WC} {d : Nat} {w : MC} {s : Int → Int} {A : MAs} {l : Int} {D : LaS} {E : LaY} {ru : RU} {cs : Int} {h0 : AH} {l1 l2 sr n b b2 ro wv bb : Int} {rf f0 : Int → Int} {m : Nat} (hd : 210 ≤ d) (hWb : ∀ k : WC, RuC k s A E ru) (hM : MlD A l D E) (hD : LOK D) (hE : YOK E) (zcs0 : 0 ≤ cs) (zcs1 : cs ≤ 30) (hl : s 37 = l) (hcs : s 38 = cs) (h45 : s 45 = m) (hk0 : 0 ≤ sr) (hk1 : sr ≤ 4) (hn1 : 1 ≤ n) (hn : n ≤ 12) (hwv : wv = 0 ∨ wv = 1) (hb0 : 0 ≤ bb) (hb1 : bb ≤ 20) (hm40 : m ≤ 40) (hrw : ∀ x : Int, 0 ≤ x → x < 40 → A 41 (40 * wv + x) = rf x ∧ 0 ≤ rf x ∧ rf x ≤ 20) (hc : Cx w k d 0 0 mdX11_towns) (kont : ∀ (le : Int) (z11 z12 : Option AV) (f : Int → Int) (h : AH), (∀ j : Nat, j < m → PhA D (fun s a => kpS D E ru cs sr n s a) rf bb wv f j) → (∀ z : Int, z < 280 * wv ∨ 280 * wv + 7 * (m : Nat) ≤ z → f z = f0 z) → MdS h s A → MoM h D E ru cs → h (243, 0) = some (oI 560 f) → Fr isTr h0 h → J w 0 0 232 [some (vR (70, 0)), some (vI l1), some (vI l2), some (vI sr), some (vI n), some (vI b), some (vI b2), some (vI ro), some (vI wv), some (vI le), some (vI m), z11, z12] [] h) : ∀ (zm : Nat) (i : Nat) (le : Int) (z11 z12 : Option AV) (f : Int → Int) (h : AH), m - i = zm → i ≤ m → le = ltN D (fun s a => kpS D E ru cs sr n s a) rf bb i → (∀ j : Nat, j < i → PhA D (fun s a => kpS D E ru cs sr n s a) rf bb wv f j) → (∀ z : Int, z < 280 * wv ∨ 280 * wv + 7 * (i : Nat) ≤ z → f z = f0 z) → MdS h s A → MoM h D E ru cs → h (243, 0) = some (oI 560 f) → Fr isTr h0 h → J w 0 0 133 [some (vR (70, 0)), some (vI l1), some (vI l2), some (vI sr), some (vI n), some (vI b), some (vI b2), some (vI ro), some (vI wv), some (vI le), some (vI i), z11, z12] [] h := by
  obtain ⟨⟨zl0, zl1⟩, mSe, -⟩ := id hM
  have hd1 := hD.1
  have hd2 := hD.2.1
  intro zm
  induction zm using Nat.strongRecOn with
  | _ zm ih =>
    intro i le z11 z12 f h hm him hle hp hz0 hS hm0 z43 hF
    refine j_iload hc dX11_towns_133 rfl ?_
    refine j_aload_n hc dX11_towns_135 rfl ?_
    refine j_get hc dX11_towns_136 fX11_386 hS.1 rfl ?_
    rw [h45]
    refine j_icmp_ge (tgt := 232) hc dX11_towns_139 (by decide) ⟨by omega, by omega⟩ ⟨by omega, by omega⟩ (fun zc1 => ?_) (fun zc1 => ?_)
    · have zi : i = m := by omega
      subst zi
      exact kont _ _ _ f h hp hz0 hS hm0 z43 hF
    · have zlt := ltN_b hD (kqP hD hE (ru := ru) (cs := cs) (kd := sr) hn1) hb0 hb1 (fun x x0 x1 => (hrw x x0 x1).2) i (by omega)
      rw [← hle] at zlt
      have zrw := (hrw i (by omega) (by omega)).2
      have zm0 := Int.emod_nonneg (i : Int) (show lSe D ≠ 0 by omega)
      have zm1 := Int.emod_lt_of_pos (i : Int) (show 0 < lSe D by omega)
      have zse : (i : Int) - (i : Int).tdiv (lSe D) * lSe D = (i : Int) % lSe D := by
        rw [Int.tdiv_eq_ediv_of_nonneg (by omega)]
        have := Int.emod_add_mul_ediv (i : Int) (lSe D)
        rw [Int.mul_comm] at this
        omega
      have zk := kpS_b hD hE (ru := ru) (cs := cs) (sr := sr) (n := n) (s := (i : Int) % lSe D) (a := le + rf i) (by omega)
      have zk2 := kpS_le hD hE (ru := ru) (cs := cs) (sr := sr) (n := n) (s := (i : Int) % lSe D) (a := le + rf i) hn1 (by omega)
      refine j_iload hc dX11_towns_142 rfl ?_
      refine j_aload_n hc dX11_towns_144 rfl ?_
      refine j_get hc dX11_towns_145 fX11_102 hS.1 rfl ?_
      refine j_bipush hc dX11_towns_148 (by decide) ?_
      refine j_iload hc dX11_towns_150 rfl ?_
      refine j_imul hc dX11_towns_152 ?_
      refine j_iload hc dX11_towns_153 rfl ?_
      refine j_iadd hc dX11_towns_155 ?_
      refine j_iald hc dX11_towns_156 hS.2.2.2.2.2.2.2.2.2.2.2.2.2.2.2.2.2.2.2.2.2.2.1 (by omega) (by omega) ?_
      rw [(hrw i (by omega) (by omega)).1]
      refine j_iadd hc dX11_towns_157 ?_
      refine j_istore (L' := [_, _, _, _, _, _, _, _, _, _, _, _, _]) hc dX11_towns_158 (Nat.le_of_ble_eq_true rfl) rfl ?_
      refine j_aload_n hc dX11_towns_160 rfl ?_
      refine j_iload_n hc dX11_towns_161 rfl ?_
      refine j_iload hc dX11_towns_162 rfl ?_
      refine j_iload hc dX11_towns_164 rfl ?_
      refine j_aload_n hc dX11_towns_166 rfl ?_
      refine j_get hc dX11_towns_167 fX11_13 hS.1 rfl ?_
      refine j_aload_n hc dX11_towns_170 rfl ?_
      refine j_get hc dX11_towns_171 fX11_278 hS.1 rfl ?_
      rw [hl]
      refine j_iald hc dX11_towns_174 hS.2.2.1 (by omega) (by omega) ?_
      rw [mSe]
      refine j_irem hc dX11_towns_175 ⟨by omega, by omega⟩ ⟨by omega, by omega⟩ (by omega) ?_
      rw [zse]
      refine j_iload hc dX11_towns_176 rfl ?_
      refine j_callV (d' := d - 1) hc dX11_towns_178 vX11_319 hS.1 (tb_kept (by omega) (⟨hS, hm0, Fr.rf _ _, hl, hcs⟩ : TbA s A D E ru cs l _ _) (hWb _) hM hD hE zcs0 zcs1 (by omega) (by omega) (by omega) (by omega) (by omega) (by omega) (by omega) (by omega)) rfl (by omega) (by omega) (by omega) rfl rfl (Nat.le_of_ble_eq_true rfl) (retE fun zv178 zq178 zp178 => ?_)
      obtain ⟨zv1, zT1⟩ := zp178
      subst zv1
      refine j_istore (L' := [_, _, _, _, _, _, _, _, _, _, _, _, _]) hc dX11_towns_181 (Nat.le_of_ble_eq_true rfl) rfl ?_
      refine j_aload_n hc dX11_towns_183 rfl ?_
      refine j_aload_n hc dX11_towns_184 rfl ?_
      refine j_get hc dX11_towns_185 fX11_108 zT1.1.1 rfl ?_
      refine j_bipush hc dX11_towns_188 (by decide) ?_
      refine j_bipush hc dX11_towns_190 (by decide) ?_
      refine j_iload hc dX11_towns_192 rfl ?_
      refine j_imul hc dX11_towns_194 ?_
      refine j_iload hc dX11_towns_195 rfl ?_
      refine j_iadd hc dX11_towns_197 ?_
      refine j_imul hc dX11_towns_198 ?_
      refine j_iload hc dX11_towns_199 rfl ?_
      refine j_iload hc dX11_towns_201 rfl ?_
      refine j_iload hc dX11_towns_203 rfl ?_
      refine j_iload hc dX11_towns_205 rfl ?_
      refine j_isub hc dX11_towns_207 ?_
      refine j_iconst hc dX11_towns_208 ?_
      refine j_iconst hc dX11_towns_209 ?_
      refine j_iconst hc dX11_towns_210 ?_
      refine j_callV (d' := d - 1) hc dX11_towns_211 vX11_373 zT1.1.1 (ev_X11_note (by omega) zT1.1 hM hD hE hl (by decide) ((zT1.2.2.1 _ (by decide)).trans z43) (by omega) (by omega) (by omega) (by omega) (by omega)) rfl (by omega) (by omega) (by omega) rfl rfl (Nat.le_of_ble_eq_true rfl) (retN fun zq211 zp211 => ?_)
      obtain ⟨zN8, zF8⟩ := zp211
      have zS8 := MdS.fr (fun z hz => zF8 z (fun y => by rw [y] at hz; exact absurd hz (by decide))) zT1.1
      have zM8 := MoM.fr (fun z hz => zF8 z (fun y => by rw [y] at hz; exact absurd hz (by decide))) zT1.2.1
      refine j_aload_n hc dX11_towns_214 rfl ?_
      refine j_aload_n hc dX11_towns_215 rfl ?_
      refine j_get hc dX11_towns_216 fX11_278 zS8.1 rfl ?_
      rw [hl]
      refine j_iload hc dX11_towns_219 rfl ?_
      refine j_callV (d' := d - 1) hc dX11_towns_221 vX11_275 zS8.1 (ev_X11_leftOf (by omega) zS8 hM hD hE (by omega) (by omega)) rfl (by omega) (by omega) (by omega) rfl rfl (Nat.le_of_ble_eq_true rfl) (ret1 ?_)
      refine j_istore (L' := [_, _, _, _, _, _, _, _, _, _, _, _, _]) hc dX11_towns_224 (Nat.le_of_ble_eq_true rfl) rfl ?_
      refine j_iinc (L' := [_, _, _, _, _, _, _, _, _, _, _, _, _]) hc dX11_towns_226 rfl (Nat.le_of_ble_eq_true rfl) rfl ?_
      refine j_goto (tgt := 133) hc dX11_towns_229 (by decide) ?_
      subst hle
      exact ih _ (by omega) (i + 1) _ _ _ _ _ rfl (by omega) rfl (fun j hj => by
        by_cases e : j = i
        · rw [e]
          exact ⟨wrS_0, wrS_1, wrS_5, wrS_6⟩
        · exact (hp j (by omega)).same (fun z z0 z1 => wrS_lo (by omega))) (fun z hz => by rw [wrS_lo (by omega)]; exact hz0 z (by omega)) zS8 zM8 zN8 (Fr.tr (Fr.tr (hF) (zT1.2.2.1.mono fun z zz => Or.inl zz)) (zF8.mono fun z zz => Or.inr zz))
