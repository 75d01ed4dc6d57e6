/-! ===== fillBest ===== -/
/-- one row of both tables is new: what is kept, by R, and the best, by V -/
def fbeP (h h' : AH) (i : Int) (len : Nat) (kf bf : Int → Int) (lo : Int) (R V : Int → Int) : Prop := ∃ kf' bf' af' : Int → Int, h' (51, i) = some (oI len kf') ∧ h' (52, i) = some (oL len bf') ∧ h' (56, i) = some (oL 21 af') ∧ (∀ a : Int, 0 ≤ a → a ≤ 40 → kf' (lo + a) = R a ∧ bf' (lo + a) = V a) ∧ (∀ x : Int, x < lo ∨ lo + 40 < x → kf' x = kf x ∧ bf' x = bf x) ∧ Fr (fun z => z = (51, i) ∨ z = (52, i) ∨ z = (56, i)) h h'

set_option maxRecDepth 100000 in
set_option maxHeartbeats 4000000 in
theorem lp_X2_fillBest3 {k : WC} {d : Nat} {w : MC} {h : AH} {l : Int} {D : LaS} {E : LaY} {pl : Int → Option Nm} {i sr cs : Int} {wf : Option Nm} {gn : Nm} {bf gf : Int → Int} {gl : Nat} {n s : Int} {af : Int → Int} {a : Int} (hd : 3 ≤ d) (hL : LandAt h l D E pl) (hD : LOK D) (hE : YOK E) (zp50 : h (50, i) = some (oO 2 (pF i l sr cs wf gn))) (zp56 : h (56, i) = some (oL 21 af)) (zpg : h gn = some (oI gl gf)) (hgl : 41 ≤ gl) (hgf : ∀ b : Int, 0 ≤ b → b ≤ 40 → 0 ≤ gf b ∧ gf b ≤ 17820) (hah : ∀ j : Int, 0 ≤ j → j ≤ (faM D E n) → af j = fbA D cs bf n s j) (hbb : n > 1 → ∀ b : Int, 0 ≤ b → b ≤ 40 → 0 ≤ bf (ceS (n - 1) (nxS D s) + b) ∧ bf (ceS (n - 1) (nxS D s) + b) ≤ bbS D (n - 1) (nxS D s)) (hn1 : 1 ≤ n) (hn : n ≤ 12) (hs0 : 0 ≤ s) (hs1 : s < lSe D) (hcs0 : 0 ≤ cs) (hcs1 : cs ≤ 30) (ha0 : 0 ≤ a) (ha1 : a ≤ 40) (hc : Cx w k d 0 0 mdX2_fillBest) (kont : ∀ z12 z13 z14 : Option AV, J w 0 0 208 [some (vR (50, i)), some (vI n), some (vI s), some (vI (nxS D s)), some (vI (faM D E n)), some (vL (beN D (n - 1).toNat s)), none, some (vI (ceS n s)), some (vI a), some (vI (mxN (fbV D cs gf bf n s a) (min a (faM D E n)).toNat).2), some (vL (mxN (fbV D cs gf bf n s a) (min a (faM D E n)).toNat).1), none, z12, z13, z14] [] h) : ∀ (zm : Nat) (m : Nat) (bk : Nat) (tp : Int) (z13 z14 : Option AV), (min a (faM D E n)).toNat - m = zm → m ≤ min a (faM D E n) → (tp, bk) = mxN (fbV D cs gf bf n s a) m → J w 0 0 150 [some (vR (50, i)), some (vI n), some (vI s), some (vI (nxS D s)), some (vI (faM D E n)), some (vL (beN D (n - 1).toNat s)), none, some (vI (ceS n s)), some (vI a), some (vI bk), some (vL tp), none, some (vI ((m : Int) + 1)), z13, z14] [] h := by
  obtain ⟨g30, g31, g32, g33, g34, g35, g36, ⟨f37, g37, q37⟩, ⟨f38, g38, q38⟩, ⟨f39, g39, q39⟩, g40⟩ := id hL
  obtain ⟨d1, d2, d3, d4, d5, d6, d7, d8, d9, d10, d11, d12, d13⟩ := id hD
  have zM := faM_b hD hE n
  have zT := beN_b11 hD (m := (n - 1).toNat) (by omega) hs0
  have zbb := bbS_b hD hn1 hn hs0
  intro zm
  induction zm using Nat.strongRecOn with
  | _ zm ih =>
    intro m bk tp z13 z14 hm hk hr
    have zmx := mxN_in (v := (fbV D cs gf bf n s a)) (lo := -445805022412800) (hi := 158884909987921920) m (fun j hj => by
      have := fbV_b hD (k := j) (gf := gf) (bf := bf) (a := a) hcs0 hcs1 hn1 hn hs0 hs1 (by omega) (by omega) ha1 hgf hbb
      omega)
    rw [← hr] at zmx
    dsimp only at zmx
    refine j_iload hc dX2_fillBest_150 rfl ?_
    refine j_iload hc dX2_fillBest_152 rfl ?_
    refine j_iload hc dX2_fillBest_154 rfl ?_
    refine j_mmin hc dX2_fillBest_156 mX2_116 mo_min ⟨by omega, by omega⟩ ⟨by omega, by omega⟩ (by omega) (by omega) rfl (by omega) (Nat.le_of_ble_eq_true rfl) ?_
    refine j_icmp_gt (tgt := 208) hc dX2_fillBest_159 (by decide) ⟨by omega, by omega⟩ ⟨by omega, by omega⟩ (fun zc1 => ?_) (fun zc1 => ?_)
    · rw [show (min a (faM D E n)).toNat = m by omega, ← hr] at kont
      exact kont _ _ _
    · refine j_lload hc dX2_fillBest_162 rfl ?_
      refine j_aload_n hc dX2_fillBest_164 rfl ?_
      refine j_get hc dX2_fillBest_165 fX2_42 zp50 rfl ?_
      refine j_iload hc dX2_fillBest_168 rfl ?_
      refine j_iload hc dX2_fillBest_170 rfl ?_
      refine j_isub hc dX2_fillBest_172 ?_
      refine j_iald hc dX2_fillBest_173 zpg (by omega) (by omega) ?_
      have zg1 := hgf (a - ((m : Int) + 1)) (by omega) (by omega)
      refine j_i2l hc dX2_fillBest_174 ⟨by omega, by omega⟩ ?_
      refine j_lmul hc dX2_fillBest_175 ?_
      refine j_aload_n hc dX2_fillBest_176 rfl ?_
      refine j_get hc dX2_fillBest_177 fX2_51 zp50 rfl ?_
      refine j_iload hc dX2_fillBest_180 rfl ?_
      refine j_lald hc dX2_fillBest_182 zp56 (by omega) (by omega) ?_
      refine j_ladd hc dX2_fillBest_183 ?_
      refine j_lstore (L' := [_, _, _, _, _, _, _, _, _, _, _, _, _, _, _]) hc dX2_fillBest_184 (Nat.le_of_ble_eq_true rfl) rfl ?_
      have zv : (beN D (n - 1).toNat s) * gf (a - ((m : Int) + 1)) + af ((m : Int) + 1) = (fbV D cs gf bf n s a) (m + 1) := by rw [hah _ (by omega) (by omega)]; rfl
      rw [zv]
      have zvb := fbV_b hD (k := m + 1) (gf := gf) (bf := bf) (a := a) hcs0 hcs1 hn1 hn hs0 hs1 (by omega) (by omega) ha1 hgf hbb
      refine j_lload hc dX2_fillBest_186 rfl ?_
      refine j_lload hc dX2_fillBest_188 rfl ?_
      refine j_lcmp hc dX2_fillBest_190 ⟨by omega, by omega⟩ ⟨by omega, by omega⟩ ?_
      refine j_if_le (b := 0) (tgt := 202) hc dX2_fillBest_191 (by decide) (by unfold lc; split <;> (try split) <;> exact ⟨by omega, by omega⟩) (fun zc2 => ?_) (fun zc2 => ?_)
      · have zq : (tp, bk) = mxN (fbV D cs gf bf n s a) (m + 1) := by
          simp only [mxN]
          rw [← hr, if_neg (by show ¬ _ > tp; unfold lc at zc2; split at zc2 <;> (try split at zc2) <;> omega)]
        refine j_iinc (L' := [_, _, _, _, _, _, _, _, _, _, _, _, _, _, _]) hc dX2_fillBest_202 rfl (Nat.le_of_ble_eq_true rfl) rfl ?_
        refine j_goto (tgt := 150) hc dX2_fillBest_205 (by decide) ?_
        exact ih _ (by omega) (m + 1) _ _ _ _ rfl (by omega) zq
      · have zq : ((fbV D cs gf bf n s a) (m + 1), m + 1) = mxN (fbV D cs gf bf n s a) (m + 1) := by
          simp only [mxN]
          rw [← hr, if_pos (by show _ > tp; unfold lc at zc2; split at zc2 <;> (try split at zc2) <;> omega)]
        refine j_lload hc dX2_fillBest_194 rfl ?_
        refine j_lstore (L' := [_, _, _, _, _, _, _, _, _, _, _, _, _, _, _]) hc dX2_fillBest_196 (Nat.le_of_ble_eq_true rfl) rfl ?_
        refine j_iload hc dX2_fillBest_198 rfl ?_
        refine j_istore (L' := [_, _, _, _, _, _, _, _, _, _, _, _, _, _, _]) hc dX2_fillBest_200 (Nat.le_of_ble_eq_true rfl) rfl ?_
        refine j_iinc (L' := [_, _, _, _, _, _, _, _, _, _, _, _, _, _, _]) hc dX2_fillBest_202 rfl (Nat.le_of_ble_eq_true rfl) rfl ?_
        refine j_goto (tgt := 150) hc dX2_fillBest_205 (by decide) ?_
        exact ih _ (by omega) (m + 1) _ _ _ _ rfl (by omega) zq
set_option maxRecDepth 100000 in
set_option maxHeartbeats 4000000 in
theorem lp_X2_fillBest2 {k : WC} {d : Nat} {w : MC} {h : AH} {l : Int} {D : LaS} {E : LaY} {pl : Int → Option Nm} {i sr cs : Int} {wf : Option Nm} {gn : Nm} {kf bf gf : Int → Int} {gl : Nat} {n s : Int} {af : Int → Int} (hd : 3 ≤ d) (hD : LOK D) (hE : YOK E) (hgn : gn.1 = 37 ∨ gn.1 = 38) (hgl : 41 ≤ gl) (hgf : ∀ b : Int, 0 ≤ b → b ≤ 40 → 0 ≤ gf b ∧ gf b ≤ 17820) (hah : ∀ j : Int, 0 ≤ j → j ≤ (faM D E n) → af j = fbA D cs bf n s j) (hbb : n > 1 → ∀ b : Int, 0 ≤ b → b ≤ 40 → 0 ≤ bf (ceS (n - 1) (nxS D s) + b) ∧ bf (ceS (n - 1) (nxS D s) + b) ≤ bbS D (n - 1) (nxS D s)) (hn1 : 1 ≤ n) (hn : n ≤ 12) (hs0 : 0 ≤ s) (hs1 : s < lSe D) (hcs0 : 0 ≤ cs) (hcs1 : cs ≤ 30)  (hc : Cx w k d 0 0 mdX2_fillBest) (he : Ends w 0 0 (pn fun h' => fbeP h h' i ((lSe D).toNat * 492) kf bf (ceS n s) (fun a => ((mxN (fbV D cs gf bf n s a) (min a (faM D E n)).toNat).2 : Int)) (fun a => (mxN (fbV D cs gf bf n s a) (min a (faM D E n)).toNat).1))) : ∀ (zm : Nat) (a : Int) (h' : AH) (kf' bf' : Int → Int) (z9 z10 z11 z12 z13 z14 : Option AV), (41 - a).toNat = zm → 0 ≤ a → a ≤ 41 → LandAt h' l D E pl → h' (50, i) = some (oO 2 (pF i l sr cs wf gn)) → h' (51, i) = some (oI ((lSe D).toNat * 492) kf') → h' (52, i) = some (oL ((lSe D).toNat * 492) bf') → h' (56, i) = some (oL 21 af) → h' gn = some (oI gl gf) → (∀ b : Int, 0 ≤ b → b < a → kf' (ceS n s + b) = (fun a => ((mxN (fbV D cs gf bf n s a) (min a (faM D E n)).toNat).2 : Int)) b ∧ bf' (ceS n s + b) = (fun a => (mxN (fbV D cs gf bf n s a) (min a (faM D E n)).toNat).1) b) → (∀ x : Int, x < ceS n s ∨ ceS n s + 40 < x → kf' x = kf x ∧ bf' x = bf x) → Fr (fun z => z = (51, i) ∨ z = (52, i) ∨ z = (56, i)) h h' → J w 0 0 117 [some (vR (50, i)), some (vI n), some (vI s), some (vI (nxS D s)), some (vI (faM D E n)), some (vL (beN D (n - 1).toNat s)), none, some (vI (ceS n s)), some (vI a), z9, z10, z11, z12, z13, z14] [] h' := by
  have zM := faM_b hD hE n
  have zce : ceS n s = (s * 12 + n - 1) * 41 := rfl
  intro zm
  induction zm using Nat.strongRecOn with
  | _ zm ih =>
    intro a h' kf' bf' z9 z10 z11 z12 z13 z14 hm ha0 ha1 hL zp50 zp51 zp52 zp56 zpg hq1 hq2 hfr
    have zg0 := hgf a ha0
    refine j_iload hc dX2_fillBest_117 rfl ?_
    refine j_bipush hc dX2_fillBest_119 (by decide) ?_
    refine j_icmp_gt (tgt := 238) hc dX2_fillBest_121 (by decide) ⟨by omega, by omega⟩ ⟨by omega, by omega⟩ (fun zc1 => ?_) (fun zc1 => ?_)
    · exact j_vret hc he dX2_fillBest_238 rfl (by omega) (by omega) ⟨rfl, kf', bf', af, zp51, zp52, zp56, fun b z0 z1 => hq1 b z0 (by omega), hq2, hfr⟩
    · refine j_iconst hc dX2_fillBest_124 ?_
      refine j_istore (L' := [_, _, _, _, _, _, _, _, _, _, _, _, _, _, _]) hc dX2_fillBest_125 (Nat.le_of_ble_eq_true rfl) rfl ?_
      refine j_lload hc dX2_fillBest_127 rfl ?_
      refine j_aload_n hc dX2_fillBest_129 rfl ?_
      refine j_get hc dX2_fillBest_130 fX2_42 zp50 rfl ?_
      refine j_iload hc dX2_fillBest_133 rfl ?_
      refine j_iald hc dX2_fillBest_135 zpg (by omega) (by omega) ?_
      have zg1 := hgf a ha0 (by omega)
      refine j_i2l hc dX2_fillBest_136 ⟨by omega, by omega⟩ ?_
      refine j_lmul hc dX2_fillBest_137 ?_
      refine j_aload_n hc dX2_fillBest_138 rfl ?_
      refine j_get hc dX2_fillBest_139 fX2_51 zp50 rfl ?_
      refine j_iconst hc dX2_fillBest_142 ?_
      refine j_lald hc dX2_fillBest_143 zp56 (by omega) (by omega) ?_
      refine j_ladd hc dX2_fillBest_144 ?_
      refine j_lstore (L' := [_, _, _, _, _, _, _, _, _, _, _, _, _, _, _]) hc dX2_fillBest_145 (Nat.le_of_ble_eq_true rfl) rfl ?_
      refine j_iconst hc dX2_fillBest_147 ?_
      refine j_istore (L' := [_, _, _, _, _, _, _, _, _, _, _, _, _, _, _]) hc dX2_fillBest_148 (Nat.le_of_ble_eq_true rfl) rfl ?_
      refine lp_X2_fillBest3 (a := a) hd hL hD hE zp50 zp56 zpg hgl hgf hah hbb hn1 hn hs0 hs1 hcs0 hcs1 ha0 (by omega) hc (fun z12 z13 z14 => ?_) _ 0 0 _ _ _ rfl (by omega) (by simp only [mxN]; unfold fbV; rw [hah 0 (by omega) (by omega)]; simp)
      refine j_aload_n hc dX2_fillBest_208 rfl ?_
      refine j_get hc dX2_fillBest_209 fX2_28 zp50 rfl ?_
      refine j_iload hc dX2_fillBest_212 rfl ?_
      refine j_iload hc dX2_fillBest_214 rfl ?_
      refine j_iadd hc dX2_fillBest_216 ?_
      refine j_iload hc dX2_fillBest_217 rfl ?_
      refine j_iast hc dX2_fillBest_219 zp51 (by omega) (by omega) ?_
      generalize ezh1 : up _ _ _ = zh1
      have zzland_zh1 := LandAt.mv ezh1 (by simp) hL
      have zP_zh1 := (congrFun ezh1 _).symm.trans ((up_ne (by simp)).trans zp50)
      have zP51_zh1 := (congrFun ezh1 _).symm.trans (up_same _ _ _)
      have zP52_zh1 := (congrFun ezh1 _).symm.trans ((up_ne (by simp)).trans zp52)
      have zP56_zh1 := (congrFun ezh1 _).symm.trans ((up_ne (by simp)).trans zp56)
      have zPG_zh1 := (congrFun ezh1 _).symm.trans ((up_ne (by intro ze; rw [ze] at hgn; simp at hgn)).trans zpg)
      refine j_aload_n hc dX2_fillBest_220 rfl ?_
      refine j_get hc dX2_fillBest_221 fX2_32 zP_zh1 rfl ?_
      refine j_iload hc dX2_fillBest_224 rfl ?_
      refine j_iload hc dX2_fillBest_226 rfl ?_
      refine j_iadd hc dX2_fillBest_228 ?_
      refine j_lload hc dX2_fillBest_229 rfl ?_
      refine j_last hc dX2_fillBest_231 zP52_zh1 (by omega) (by omega) ?_
      generalize ezh2 : up _ _ _ = zh2
      have zzland_zh2 := LandAt.mv ezh2 (by simp) zzland_zh1
      have zP_zh2 := (congrFun ezh2 _).symm.trans ((up_ne (by simp)).trans zP_zh1)
      have zP51_zh2 := (congrFun ezh2 _).symm.trans ((up_ne (by simp)).trans zP51_zh1)
      have zP52_zh2 := (congrFun ezh2 _).symm.trans (up_same _ _ _)
      have zP56_zh2 := (congrFun ezh2 _).symm.trans ((up_ne (by simp)).trans zP56_zh1)
      have zPG_zh2 := (congrFun ezh2 _).symm.trans ((up_ne (by intro ze; rw [ze] at hgn; simp at hgn)).trans zPG_zh1)
      refine j_iinc (L' := [_, _, _, _, _, _, _, _, _, _, _, _, _, _, _]) hc dX2_fillBest_232 rfl (Nat.le_of_ble_eq_true rfl) rfl ?_
      refine j_goto (tgt := 117) hc dX2_fillBest_235 (by decide) ?_
      exact ih _ (by omega) (a + 1) zh2 (fu kf' (ceS n s + a) ((mxN (fbV D cs gf bf n s a) (min a (faM D E n)).toNat).2 : Int)) (fu bf' (ceS n s + a) (mxN (fbV D cs gf bf n s a) (min a (faM D E n)).toNat).1) _ _ _ _ _ _ rfl (by omega) (by omega) zzland_zh2 zP_zh2 zP51_zh2 zP52_zh2 zP56_zh2 zPG_zh2 (fun b z0 z1 => by
        by_cases ze : b = a
        · rw [ze, fu_same, fu_same]; exact ⟨rfl, rfl⟩
        · rw [fu_ne (by omega), fu_ne (by omega)]; exact hq1 b z0 (by omega)) (fun x zx => by rw [fu_ne (by omega), fu_ne (by omega)]; exact hq2 x zx) (by rw [← ezh2, ← ezh1]; exact (hfr.push (Or.inl rfl)).push (Or.inr (Or.inl rfl)))
set_option maxRecDepth 100000 in
set_option maxHeartbeats 4000000 in
theorem lp_X2_fillBest1 {k : WC} {d : Nat} {w : MC} {h : AH} {l : Int} {D : LaS} {E : LaY} {pl : Int → Option Nm} {i sr cs : Int} {wf : Option Nm} {gn : Nm} {kf bf gf : Int → Int} {gl : Nat} {n s : Int} (hd : 3 ≤ d) (hD : LOK D) (hE : YOK E) (hgn : gn.1 = 37 ∨ gn.1 = 38) (hgl : 41 ≤ gl) (hgf : ∀ b : Int, 0 ≤ b → b ≤ 40 → 0 ≤ gf b ∧ gf b ≤ 17820) (hbb : n > 1 → ∀ b : Int, 0 ≤ b → b ≤ 40 → 0 ≤ bf (ceS (n - 1) (nxS D s) + b) ∧ bf (ceS (n - 1) (nxS D s) + b) ≤ bbS D (n - 1) (nxS D s)) (hn1 : 1 ≤ n) (hn : n ≤ 12) (hs0 : 0 ≤ s) (hs1 : s < lSe D) (hcs0 : 0 ≤ cs) (hcs1 : cs ≤ 30)  (hc : Cx w k d 0 0 mdX2_fillBest) (he : Ends w 0 0 (pn fun h' => fbeP h h' i ((lSe D).toNat * 492) kf bf (ceS n s) (fun a => ((mxN (fbV D cs gf bf n s a) (min a (faM D E n)).toNat).2 : Int)) (fun a => (mxN (fbV D cs gf bf n s a) (min a (faM D E n)).toNat).1))) : ∀ (zm : Nat) (kk : Int) (h' : AH) (af' : Int → Int), (21 - kk).toNat = zm → 0 ≤ kk → kk ≤ (faM D E n) + 1 → LandAt h' l D E pl → h' (50, i) = some (oO 2 (pF i l sr cs wf gn)) → h' (51, i) = some (oI ((lSe D).toNat * 492) kf) → h' (52, i) = some (oL ((lSe D).toNat * 492) bf) → h' (56, i) = some (oL 21 af') → h' gn = some (oI gl gf) → (∀ b : Int, 0 ≤ b → b < kk → af' b = fbA D cs bf n s b) → (n ≤ 1 → af' 0 = 0) → Fr (fun z => z = (51, i) ∨ z = (52, i) ∨ z = (56, i)) h h' → J w 0 0 48 [some (vR (50, i)), some (vI n), some (vI s), some (vI (nxS D s)), some (vI (faM D E n)), some (vL (beN D (n - 1).toNat s)), none, some (vI kk), none, none, none, none, none, none, none] [] h' := by
  have zM := faM_b hD hE n
  have zM1 : n ≤ 1 → faM D E n = 0 := fun z => by unfold faM; rw [if_neg (by omega)]
  have zn := nxS_b hD hs0
  have zle := leS_b hD (k := 0) (by omega)
  intro zm
  induction zm using Nat.strongRecOn with
  | _ zm ih =>
    intro kk h' af' hm hk0 hk1 hL zp50 zp51 zp52 zp56 zpg hq1 hq0 hfr
    have zlk := leS_b hD (k := kk) (by omega)
    refine j_iload hc dX2_fillBest_48 rfl ?_
    refine j_iload hc dX2_fillBest_50 rfl ?_
    refine j_icmp_gt (tgt := 107) hc dX2_fillBest_52 (by decide) ⟨by omega, by omega⟩ ⟨by omega, by omega⟩ (fun zc1 => ?_) (fun zc1 => ?_)
    · refine j_iload_n hc dX2_fillBest_107 rfl ?_
      refine j_iload_n hc dX2_fillBest_108 rfl ?_
      refine j_callS (d' := d - 1) hc dX2_fillBest_109 sX2_81 (ev_X2_cellOf (by omega)) rfl (by omega) (by omega) (by omega) rfl rfl (Nat.le_of_ble_eq_true rfl) (ret1 ?_)
      refine j_istore (L' := [_, _, _, _, _, _, _, _, _, _, _, _, _, _, _]) hc dX2_fillBest_112 (Nat.le_of_ble_eq_true rfl) rfl ?_
      refine j_iconst hc dX2_fillBest_114 ?_
      refine j_istore (L' := [_, _, _, _, _, _, _, _, _, _, _, _, _, _, _]) hc dX2_fillBest_115 (Nat.le_of_ble_eq_true rfl) rfl ?_
      exact lp_X2_fillBest2 (af := af') hd hD hE hgn hgl hgf (fun j z0 z1 => by
        by_cases zz : n ≤ 1
        · have := zM1 zz
          rw [show j = 0 by omega, hq0 zz]; unfold fbA; rw [if_neg (by omega)]
        · exact hq1 j z0 (by omega)) hbb hn1 hn hs0 hs1 hcs0 hcs1 hc he _ 0 h' kf bf _ _ _ _ _ _ rfl (by omega) (by omega) hL zp50 zp51 zp52 zp56 zpg (fun b z0 z1 => by omega) (fun x _ => ⟨rfl, rfl⟩) hfr
    · refine j_iload_n hc dX2_fillBest_55 rfl ?_
      refine j_iconst hc dX2_fillBest_56 ?_
      refine j_icmp_le (tgt := 107) hc dX2_fillBest_57 (by decide) ⟨by omega, by omega⟩ ⟨by omega, by omega⟩ (fun zc2 => ?_) (fun zc2 => ?_)
      · refine j_iload_n hc dX2_fillBest_107 rfl ?_
        refine j_iload_n hc dX2_fillBest_108 rfl ?_
        refine j_callS (d' := d - 1) hc dX2_fillBest_109 sX2_81 (ev_X2_cellOf (by omega)) rfl (by omega) (by omega) (by omega) rfl rfl (Nat.le_of_ble_eq_true rfl) (ret1 ?_)
        refine j_istore (L' := [_, _, _, _, _, _, _, _, _, _, _, _, _, _, _]) hc dX2_fillBest_112 (Nat.le_of_ble_eq_true rfl) rfl ?_
        refine j_iconst hc dX2_fillBest_114 ?_
        refine j_istore (L' := [_, _, _, _, _, _, _, _, _, _, _, _, _, _, _]) hc dX2_fillBest_115 (Nat.le_of_ble_eq_true rfl) rfl ?_
        exact lp_X2_fillBest2 (af := af') hd hD hE hgn hgl hgf (fun j z0 z1 => by
          by_cases zz : n ≤ 1
          · have := zM1 zz
            rw [show j = 0 by omega, hq0 zz]; unfold fbA; rw [if_neg (by omega)]
          · exact hq1 j z0 (by omega)) hbb hn1 hn hs0 hs1 hcs0 hcs1 hc he _ 0 h' kf bf _ _ _ _ _ _ rfl (by omega) (by omega) hL zp50 zp51 zp52 zp56 zpg (fun b z0 z1 => by omega) (fun x _ => ⟨rfl, rfl⟩) hfr
      · refine j_aload_n hc dX2_fillBest_60 rfl ?_
        refine j_get hc dX2_fillBest_61 fX2_51 zp50 rfl ?_
        refine j_iload hc dX2_fillBest_64 rfl ?_
        refine j_aload_n hc dX2_fillBest_66 rfl ?_
        refine j_aload_n hc dX2_fillBest_67 rfl ?_
        refine j_get hc dX2_fillBest_68 fX2_32 zp50 rfl ?_
        refine j_iload_n hc dX2_fillBest_71 rfl ?_
        refine j_iconst hc dX2_fillBest_72 ?_
        refine j_isub hc dX2_fillBest_73 ?_
        refine j_iload_n hc dX2_fillBest_74 rfl ?_
        refine j_aload_n hc dX2_fillBest_75 rfl ?_
        refine j_get hc dX2_fillBest_76 fX2_9 zp50 rfl ?_
        refine j_iload hc dX2_fillBest_79 rfl ?_
        refine j_callV (d' := d - 1) hc dX2_fillBest_81 vX2_127 hL.1 (ev_X0_leftOf (by omega) hL hD (by omega) (by omega)) rfl (by omega) (by omega) (by omega) rfl rfl (Nat.le_of_ble_eq_true rfl) (ret1 ?_)
        refine j_callV (d' := d - 1) hc dX2_fillBest_84 vX2_147 zp50 (ev_X2_sumThen (by omega) hL hD zp50 zp52 (by omega) (by omega) zn.1 zn.2 zlk.1 (by omega)) rfl (by omega) (by omega) (by omega) rfl rfl (Nat.le_of_ble_eq_true rfl) (ret1 ?_)
        refine j_lload hc dX2_fillBest_87 rfl ?_
        refine j_aload_n hc dX2_fillBest_89 rfl ?_
        refine j_get hc dX2_fillBest_90 fX2_24 zp50 rfl ?_
        refine j_i2l hc dX2_fillBest_93 ⟨by omega, by omega⟩ ?_
        refine j_lmul hc dX2_fillBest_94 ?_
        refine j_iload hc dX2_fillBest_95 rfl ?_
        refine j_i2l hc dX2_fillBest_97 ⟨by omega, by omega⟩ ?_
        refine j_lmul hc dX2_fillBest_98 ?_
        refine j_lsub hc dX2_fillBest_99 ?_
        have zv : suF (stG D bf (n - 1) (nxS D s) (leS D kk)) (lHv D (nxS D s)).toNat - (beN D (n - 1).toNat s) * cs * kk = fbA D cs bf n s kk := by unfold fbA; rw [if_pos (by omega)]
        rw [zv]
        refine j_last hc dX2_fillBest_100 zp56 (by omega) (by omega) ?_
        generalize ezh1 : up _ _ _ = zh1
        have zzland_zh1 := LandAt.mv ezh1 (by simp) hL
        have zP_zh1 := (congrFun ezh1 _).symm.trans ((up_ne (by simp)).trans zp50)
        have zP51_zh1 := (congrFun ezh1 _).symm.trans ((up_ne (by simp)).trans zp51)
        have zP52_zh1 := (congrFun ezh1 _).symm.trans ((up_ne (by simp)).trans zp52)
        have zP56_zh1 := (congrFun ezh1 _).symm.trans (up_same _ _ _)
        have zPG_zh1 := (congrFun ezh1 _).symm.trans ((up_ne (by intro ze; rw [ze] at hgn; simp at hgn)).trans zpg)
        refine j_iinc (L' := [_, _, _, _, _, _, _, _, _, _, _, _, _, _, _]) hc dX2_fillBest_101 rfl (Nat.le_of_ble_eq_true rfl) rfl ?_
        refine j_goto (tgt := 48) hc dX2_fillBest_104 (by decide) ?_
        exact ih _ (by omega) (kk + 1) zh1 (fu af' kk (fbA D cs bf n s kk)) rfl (by omega) (by omega) zzland_zh1 zP_zh1 zP51_zh1 zP52_zh1 zP56_zh1 zPG_zh1 (fun b z0 z1 => by
          by_cases ze : b = kk
          · rw [ze, fu_same]
          · rw [fu_ne ze]; exact hq1 b z0 (by omega)) (fun z => absurd z (by omega)) (by rw [← ezh1]; exact hfr.push (Or.inr (Or.inr rfl)))
set_option maxRecDepth 100000 in
set_option maxHeartbeats 4000000 in
theorem ev_X2_fillBest {k : WC} {d : Nat} {h : AH} {l : Int} {D : LaS} {E : LaY} {pl : Int → Option Nm} {i sr cs : Int} {wf : Option Nm} {gn : Nm} {kf bf af gf : Int → Int} {gl : Nat} {n s : Int} (hd : 3 ≤ d) (hL : LandAt h l D E pl) (hD : LOK D) (hE : YOK E) (zp50 : h (50, i) = some (oO 2 (pF i l sr cs wf gn))) (zp51 : h (51, i) = some (oI ((lSe D).toNat * 492) kf)) (zp52 : h (52, i) = some (oL ((lSe D).toNat * 492) bf)) (zp56 : h (56, i) = some (oL 21 af)) (zpg : h gn = some (oI gl gf)) (hgn : gn.1 = 37 ∨ gn.1 = 38) (hgl : 41 ≤ gl) (hgf : ∀ b : Int, 0 ≤ b → b ≤ 40 → 0 ≤ gf b ∧ gf b ≤ 17820) (hbb : n > 1 → ∀ b : Int, 0 ≤ b → b ≤ 40 → 0 ≤ bf (ceS (n - 1) (nxS D s) + b) ∧ bf (ceS (n - 1) (nxS D s) + b) ≤ bbS D (n - 1) (nxS D s)) (hn1 : 1 ≤ n) (hn : n ≤ 12) (hs0 : 0 ≤ s) (hs1 : s < lSe D) (hcs0 : 0 ≤ cs) (hcs1 : cs ≤ 30)  : Ev k d mdX2_fillBest h [vR (50, i), vI n, vI s] 0 0 (pn fun h' => fbeP h h' i ((lSe D).toNat * 492) kf bf (ceS n s) (fun a => ((mxN (fbV D cs gf bf n s a) (min a (faM D E n)).toNat).2 : Int)) (fun a => (mxN (fbV D cs gf bf n s a) (min a (faM D E n)).toNat).1)) := by
  obtain ⟨g30, g31, g32, g33, g34, g35, g36, ⟨f37, g37, q37⟩, ⟨f38, g38, q38⟩, ⟨f39, g39, q39⟩, g40⟩ := id hL
  obtain ⟨d1, d2, d3, d4, d5, d6, d7, d8, d9, d10, d11, d12, d13⟩ := id hD
  have zM := faM_b hD hE n
  refine Ev.mk (by decide +kernel) [_, _, _, _, _, _, _, _, _, _, _, _, _, _, _] rfl (Nat.le_of_ble_eq_true rfl) (fun w hc he => ?_)
  refine j_aload_n hc dX2_fillBest_0 rfl ?_
  refine j_get hc dX2_fillBest_1 fX2_9 zp50 rfl ?_
  refine j_iload_n hc dX2_fillBest_4 rfl ?_
  refine j_callV (d' := d - 1) hc dX2_fillBest_5 vX2_105 hL.1 (ev_X0_seasonBehind (by omega) hL hD (by omega) (by omega)) rfl (by omega) (by omega) (by omega) rfl rfl (Nat.le_of_ble_eq_true rfl) (ret1 ?_)
  refine j_istore_n (L' := [_, _, _, _, _, _, _, _, _, _, _, _, _, _, _]) hc dX2_fillBest_8 (Nat.le_of_ble_eq_true rfl) rfl ?_
  refine j_iload_n hc dX2_fillBest_9 rfl ?_
  refine j_iconst hc dX2_fillBest_10 ?_
  refine j_icmp_le (tgt := 24) hc dX2_fillBest_11 (by decide) ⟨by omega, by omega⟩ ⟨by omega, by omega⟩ (fun zc1 => ?_) (fun zc1 => ?_)
  · refine j_iconst hc dX2_fillBest_24 ?_
    refine j_istore (L' := [_, _, _, _, _, _, _, _, _, _, _, _, _, _, _]) hc dX2_fillBest_25 (Nat.le_of_ble_eq_true rfl) rfl ?_
    refine j_aload_n hc dX2_fillBest_27 rfl ?_
    refine j_get hc dX2_fillBest_28 fX2_9 zp50 rfl ?_
    refine j_iload_n hc dX2_fillBest_31 rfl ?_
    refine j_iload_n hc dX2_fillBest_32 rfl ?_
    refine j_callV (d' := d - 1) hc dX2_fillBest_33 vX2_108 hL.1 (ev_X0_belowOf (by omega) hL hD (by omega) (by omega) (by omega) (by omega)) rfl (by omega) (by omega) (by omega) rfl rfl (Nat.le_of_ble_eq_true rfl) (ret1 ?_)
    refine j_lstore (L' := [_, _, _, _, _, _, _, _, _, _, _, _, _, _, _]) hc dX2_fillBest_36 (Nat.le_of_ble_eq_true rfl) rfl ?_
    refine j_aload_n hc dX2_fillBest_38 rfl ?_
    refine j_get hc dX2_fillBest_39 fX2_51 zp50 rfl ?_
    refine j_iconst hc dX2_fillBest_42 ?_
    refine j_lconst (x := 0) hc dX2_fillBest_43 (by decide) ?_
    refine j_last hc dX2_fillBest_44 zp56 (by omega) (by omega) ?_
    generalize ezh1 : up _ _ _ = zh1
    have zzland_zh1 := LandAt.mv ezh1 (by simp) hL
    have zP_zh1 := (congrFun ezh1 _).symm.trans ((up_ne (by simp)).trans zp50)
    have zP51_zh1 := (congrFun ezh1 _).symm.trans ((up_ne (by simp)).trans zp51)
    have zP52_zh1 := (congrFun ezh1 _).symm.trans ((up_ne (by simp)).trans zp52)
    have zP56_zh1 := (congrFun ezh1 _).symm.trans (up_same _ _ _)
    have zPG_zh1 := (congrFun ezh1 _).symm.trans ((up_ne (by intro ze; rw [ze] at hgn; simp at hgn)).trans zpg)
    refine j_iconst hc dX2_fillBest_45 ?_
    refine j_istore (L' := [_, _, _, _, _, _, _, _, _, _, _, _, _, _, _]) hc dX2_fillBest_46 (Nat.le_of_ble_eq_true rfl) rfl ?_
    refine Eq.mp (congrArg (fun z => J w 0 0 48 z [] zh1) ?_) (lp_X2_fillBest1 hd hD hE hgn hgl hgf hbb hn1 hn hs0 hs1 hcs0 hcs1 hc he _ 0 zh1 (fu af 0 0) rfl (by omega) (by omega) zzland_zh1 zP_zh1 zP51_zh1 zP52_zh1 zP56_zh1 zPG_zh1 (fun b z0 z1 => by omega) (fun _ => fu_same _ _ _) (by rw [← ezh1]; exact Fr.up (Or.inr (Or.inr rfl))))
    have zf : faM D E n = (if n > 1 then moS D E else 0) := rfl
    first | rw [if_pos (by omega)] at zf | rw [if_neg (by omega)] at zf
    rw [zf]
  · refine j_aload_n hc dX2_fillBest_14 rfl ?_
    refine j_get hc dX2_fillBest_15 fX2_9 zp50 rfl ?_
    refine j_callV (d' := d - 1) hc dX2_fillBest_18 vX2_112 hL.1 (ev_X0_mostKept (by omega) hL hD hE) rfl (by omega) (by omega) (by omega) rfl rfl (Nat.le_of_ble_eq_true rfl) (ret1 ?_)
    refine j_goto (tgt := 25) hc dX2_fillBest_21 (by decide) ?_
    refine j_istore (L' := [_, _, _, _, _, _, _, _, _, _, _, _, _, _, _]) hc dX2_fillBest_25 (Nat.le_of_ble_eq_true rfl) rfl ?_
    refine j_aload_n hc dX2_fillBest_27 rfl ?_
    refine j_get hc dX2_fillBest_28 fX2_9 zp50 rfl ?_
    refine j_iload_n hc dX2_fillBest_31 rfl ?_
    refine j_iload_n hc dX2_fillBest_32 rfl ?_
    refine j_callV (d' := d - 1) hc dX2_fillBest_33 vX2_108 hL.1 (ev_X0_belowOf (by omega) hL hD (by omega) (by omega) (by omega) (by omega)) rfl (by omega) (by omega) (by omega) rfl rfl (Nat.le_of_ble_eq_true rfl) (ret1 ?_)
    refine j_lstore (L' := [_, _, _, _, _, _, _, _, _, _, _, _, _, _, _]) hc dX2_fillBest_36 (Nat.le_of_ble_eq_true rfl) rfl ?_
    refine j_aload_n hc dX2_fillBest_38 rfl ?_
    refine j_get hc dX2_fillBest_39 fX2_51 zp50 rfl ?_
    refine j_iconst hc dX2_fillBest_42 ?_
    refine j_lconst (x := 0) hc dX2_fillBest_43 (by decide) ?_
    refine j_last hc dX2_fillBest_44 zp56 (by omega) (by omega) ?_
    generalize ezh2 : up _ _ _ = zh2
    have zzland_zh2 := LandAt.mv ezh2 (by simp) hL
    have zP_zh2 := (congrFun ezh2 _).symm.trans ((up_ne (by simp)).trans zp50)
    have zP51_zh2 := (congrFun ezh2 _).symm.trans ((up_ne (by simp)).trans zp51)
    have zP52_zh2 := (congrFun ezh2 _).symm.trans ((up_ne (by simp)).trans zp52)
    have zP56_zh2 := (congrFun ezh2 _).symm.trans (up_same _ _ _)
    have zPG_zh2 := (congrFun ezh2 _).symm.trans ((up_ne (by intro ze; rw [ze] at hgn; simp at hgn)).trans zpg)
    refine j_iconst hc dX2_fillBest_45 ?_
    refine j_istore (L' := [_, _, _, _, _, _, _, _, _, _, _, _, _, _, _]) hc dX2_fillBest_46 (Nat.le_of_ble_eq_true rfl) rfl ?_
    refine Eq.mp (congrArg (fun z => J w 0 0 48 z [] zh2) ?_) (lp_X2_fillBest1 hd hD hE hgn hgl hgf hbb hn1 hn hs0 hs1 hcs0 hcs1 hc he _ 0 zh2 (fu af 0 0) rfl (by omega) (by omega) zzland_zh2 zP_zh2 zP51_zh2 zP52_zh2 zP56_zh2 zPG_zh2 (fun b z0 z1 => by omega) (fun _ => fu_same _ _ _) (by rw [← ezh2]; exact Fr.up (Or.inr (Or.inr rfl))))
    have zf : faM D E n = (if n > 1 then moS D E else 0) := rfl
    first | rw [if_pos (by omega)] at zf | rw [if_neg (by omega)] at zf
    rw [zf]
