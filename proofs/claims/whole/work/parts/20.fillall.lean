/-! ===== fillAll ===== -/
/-- one row of a plan's table is new, by R; all else of it, and all other cells but the row of sums ahead, as before -/
def filP (h h' : AH) (i : Int) (len : Nat) (kf : Int → Int) (lo : Int) (R : Int → Int) : Prop := ∃ kf' af' : Int → Int, h' (51, i) = some (oI len kf') ∧ h' (56, i) = some (oL 21 af') ∧ (∀ a : Int, 0 ≤ a → a ≤ 40 → kf' (lo + a) = R a) ∧ (∀ x : Int, x < lo ∨ lo + 40 < x → kf' x = kf x) ∧ Fr (fun z => z = (51, i) ∨ z = (56, i)) h h'

set_option maxRecDepth 100000 in
set_option maxHeartbeats 4000000 in
theorem lp_X2_fillAll3 {k : WC} {d : Nat} {w : MC} {h : AH} {l : Int} {D : LaS} {E : LaY} {pl : Int → Option Nm} {i sr cs : Int} {wf : Option Nm} {gn : Nm} {kf : Int → Int} {n s : Int} {af : Int → Int} {a : Int} {rs : Nat} (hd : 3 ≤ d) (hL : LandAt h l D E pl) (hD : LOK D) (hE : YOK E) (zp50 : h (50, i) = some (oO 2 (pF i l sr cs wf gn))) (zp56 : h (56, i) = some (oL 21 af)) (hah : ∀ j : Int, 1 ≤ j → j ≤ (faM D E n) → af j = faA D kf n s j) (hn1 : 1 ≤ n) (hn : n ≤ 12) (hs0 : 0 ≤ s) (hs1 : s < lSe D) (hcs0 : 0 ≤ cs) (hcs1 : cs ≤ 30) (ha0 : 0 ≤ a) (ha1 : a ≤ 40) (hc : Cx w k d 0 0 mdX2_fillAll) (kont : ∀ z14 : Option AV, J w 0 0 217 [some (vR (50, i)), some (vI n), some (vI s), some (vI (nxS D s)), some (vI (faM D E n)), some (vL (reS D)), none, some (vL (paS D)), none, some (vL (paS D * lWs D (nxS D s))), none, some (vI (ceS n s)), some (vI rs), some (vI a), z14] [] h) : ∀ (zm : Nat) (kk : Nat), (min a (faM D E n)).toNat - kk = zm → kk ≤ min a (faM D E n) → fsk (faT D cs kf n s a) ((min a (faM D E n)).toNat - kk) kk = rs → J w 0 0 156 [some (vR (50, i)), some (vI n), some (vI s), some (vI (nxS D s)), some (vI (faM D E n)), some (vL (reS D)), none, some (vL (paS D)), none, some (vL (paS D * lWs D (nxS D s))), none, some (vI (ceS n s)), some (vI kk), some (vI a), some (vI kk)] [] h := by
  obtain ⟨g30, g31, g32, g33, g34, g35, g36, ⟨f37, g37, q37⟩, ⟨f38, g38, q38⟩, ⟨f39, g39, q39⟩, g40⟩ := id hL
  obtain ⟨d1, d2, d3, d4, d5, d6, d7, d8, d9, d10, d11, d12, d13⟩ := id hD
  have zM := faM_b hD hE n
  have zre := reS_b hD
  have zpa := paS_b hD
  have zn := nxS_b hD hs0
  have zw := d13 (nxS D s) zn.1 zn.2
  have zpw := mul_b (x := paS D) (y := lWs D (nxS D s)) (a := 20) (b := 12) (by omega) (by omega) (by omega) (by omega)
  intro zm
  induction zm using Nat.strongRecOn with
  | _ zm ih =>
    intro kk hm hk hr
    have zpr := prS_lo hD (a - kk)
    have zfa := faA_b hD kf (n := n) (k := kk + 1) hs0
    have zb1 := mul_b zfa.1 zfa.2 (by omega) zre.2
    have zb2 := mul_b (x := prS D (a - kk) + cs) (a := 129) (by omega) (by omega) zpw.1 zpw.2
    refine j_iload hc dX2_fillAll_156 rfl ?_
    refine j_iload hc dX2_fillAll_158 rfl ?_
    refine j_iload hc dX2_fillAll_160 rfl ?_
    refine j_mmin hc dX2_fillAll_162 mX2_116 mo_min ⟨by omega, by omega⟩ ⟨by omega, by omega⟩ (by omega) (by omega) rfl (by omega) (Nat.le_of_ble_eq_true rfl) ?_
    refine j_icmp_ge (tgt := 217) hc dX2_fillAll_165 (by decide) ⟨by omega, by omega⟩ ⟨by omega, by omega⟩ (fun zc1 => ?_) (fun zc1 => ?_)
    · have zr : rs = kk := by rw [← hr, show (min a (faM D E n)).toNat - kk = 0 by omega]; rfl
      rw [zr] at kont
      exact kont _
    · refine j_aload_n hc dX2_fillAll_168 rfl ?_
      refine j_get hc dX2_fillAll_169 fX2_51 zp50 rfl ?_
      refine j_iload hc dX2_fillAll_172 rfl ?_
      refine j_iconst hc dX2_fillAll_174 ?_
      refine j_iadd hc dX2_fillAll_175 ?_
      refine j_lald hc dX2_fillAll_176 zp56 (by omega) (by omega) ?_
      rw [hah (kk + 1) (by omega) (by omega)]
      refine j_lload hc dX2_fillAll_177 rfl ?_
      refine j_lmul hc dX2_fillAll_179 ?_
      refine j_aload_n hc dX2_fillAll_180 rfl ?_
      refine j_get hc dX2_fillAll_181 fX2_9 zp50 rfl ?_
      refine j_iload hc dX2_fillAll_184 rfl ?_
      refine j_iload hc dX2_fillAll_186 rfl ?_
      refine j_isub hc dX2_fillAll_188 ?_
      refine j_callV (d' := d - 1) hc dX2_fillAll_189 vX2_93 g30 (ev_X0_priceAfter (by omega) hL hD ⟨by omega, by omega⟩) rfl (by omega) (by omega) (by omega) rfl rfl (Nat.le_of_ble_eq_true rfl) (ret1 ?_)
      refine j_aload_n hc dX2_fillAll_192 rfl ?_
      refine j_get hc dX2_fillAll_193 fX2_24 zp50 rfl ?_
      refine j_iadd hc dX2_fillAll_196 ?_
      refine j_i2l hc dX2_fillAll_197 ⟨by omega, by omega⟩ ?_
      refine j_lload hc dX2_fillAll_198 rfl ?_
      refine j_lmul hc dX2_fillAll_200 ?_
      refine j_lcmp hc dX2_fillAll_201 ⟨by omega, by omega⟩ ⟨by omega, by omega⟩ ?_
      refine j_if_gt (b := 0) (tgt := 208) hc dX2_fillAll_202 (by decide) (by unfold lc; split <;> (try split) <;> exact ⟨by omega, by omega⟩) (fun zc2 => ?_) (fun zc2 => ?_)
      · have zf : faT D cs kf n s a kk = false := by
          unfold faT
          refine decide_eq_false ?_
          unfold lc at zc2
          split at zc2 <;> (try split at zc2) <;> omega
        refine j_iinc (L' := [_, _, _, _, _, _, _, _, _, _, _, _, _, _, _]) hc dX2_fillAll_208 rfl (Nat.le_of_ble_eq_true rfl) rfl ?_
        refine j_iinc (L' := [_, _, _, _, _, _, _, _, _, _, _, _, _, _, _]) hc dX2_fillAll_211 rfl (Nat.le_of_ble_eq_true rfl) rfl ?_
        refine j_goto (tgt := 156) hc dX2_fillAll_214 (by decide) ?_
        exact ih _ (by omega) (kk + 1) rfl (by omega) (by rw [← hr, show (min a (faM D E n)).toNat - kk = ((min a (faM D E n)).toNat - (kk + 1)) + 1 by omega]; simp only [fsk]; rw [if_neg (by rw [zf]; simp)])
      · have zr : rs = kk := by
          rw [← hr, show (min a (faM D E n)).toNat - kk = ((min a (faM D E n)).toNat - kk - 1) + 1 by omega]
          simp only [fsk]
          rw [if_pos (by unfold faT; refine decide_eq_true ?_; unfold lc at zc2; split at zc2 <;> (try split at zc2) <;> omega)]
        refine j_goto (tgt := 217) hc dX2_fillAll_205 (by decide) ?_
        rw [zr] at kont
        exact kont _
set_option maxRecDepth 100000 in
set_option maxHeartbeats 4000000 in
theorem lp_X2_fillAll2 {k : WC} {d : Nat} {w : MC} {h : AH} {l : Int} {D : LaS} {E : LaY} {pl : Int → Option Nm} {i sr cs : Int} {wf : Option Nm} {gn : Nm} {kf : Int → Int} {n s : Int} {af : Int → Int} (hd : 3 ≤ d) (hD : LOK D) (hE : YOK E) (hah : ∀ j : Int, 1 ≤ j → j ≤ (faM D E n) → af j = faA D kf n s j) (hn1 : 1 ≤ n) (hn : n ≤ 12) (hs0 : 0 ≤ s) (hs1 : s < lSe D) (hcs0 : 0 ≤ cs) (hcs1 : cs ≤ 30)  (hc : Cx w k d 0 0 mdX2_fillAll) (he : Ends w 0 0 (pn fun h' => filP h h' i ((lSe D).toNat * 492) kf (ceS n s) (fun a => faR D E cs kf n s a))) : ∀ (zm : Nat) (a : Int) (kk : Nat) (h' : AH) (kf' : Int → Int) (z14 : Option AV), (41 - a).toNat = zm → 0 ≤ a → a ≤ 41 → LandAt h' l D E pl → h' (50, i) = some (oO 2 (pF i l sr cs wf gn)) → h' (51, i) = some (oI ((lSe D).toNat * 492) kf') → h' (56, i) = some (oL 21 af) → (∀ b : Int, 0 ≤ b → b < a → kf' (ceS n s + b) = faR D E cs kf n s b) → (∀ x : Int, x < ceS n s ∨ ceS n s + 40 < x → kf' x = kf x) → Fr (fun z => z = (51, i) ∨ z = (56, i)) h h' → (a ≤ 40 → (kk : Int) ≤ min a (faM D E n) ∧ fsk (faT D cs kf n s a) ((min a (faM D E n)).toNat - kk) kk = faR D E cs kf n s a) → J w 0 0 145 [some (vR (50, i)), some (vI n), some (vI s), some (vI (nxS D s)), some (vI (faM D E n)), some (vL (reS D)), none, some (vL (paS D)), none, some (vL (paS D * lWs D (nxS D s))), none, some (vI (ceS n s)), some (vI kk), some (vI a), z14] [] h' := by
  have zM := faM_b hD hE n
  have zce : ceS n s = (s * 12 + n - 1) * 41 := rfl
  intro zm
  induction zm using Nat.strongRecOn with
  | _ zm ih =>
    intro a kk h' kf' z14 hm ha0 ha1 hL zp50 zp51 zp56 hq1 hq2 hfr hk
    obtain ⟨g30, g31, g32, g33, g34, g35, g36, ⟨f37, g37, q37⟩, ⟨f38, g38, q38⟩, ⟨f39, g39, q39⟩, g40⟩ := id hL
    have d10 := hD.2.2.2.2.2.2.2.2.2.1
    refine j_iload hc dX2_fillAll_145 rfl ?_
    refine j_bipush hc dX2_fillAll_147 (by decide) ?_
    refine j_icmp_gt (tgt := 235) hc dX2_fillAll_149 (by decide) ⟨by omega, by omega⟩ ⟨by omega, by omega⟩ (fun zc1 => ?_) (fun zc1 => ?_)
    · exact j_vret hc he dX2_fillAll_235 rfl (by omega) (by omega) ⟨rfl, kf', af, zp51, zp56, fun b z0 z1 => hq1 b z0 (by omega), hq2, hfr⟩
    · refine j_iload hc dX2_fillAll_152 rfl ?_
      refine j_istore (L' := [_, _, _, _, _, _, _, _, _, _, _, _, _, _, _]) hc dX2_fillAll_154 (Nat.le_of_ble_eq_true rfl) rfl ?_
      refine lp_X2_fillAll3 (rs := faR D E cs kf n s a) hd hL hD hE zp50 zp56 hah hn1 hn hs0 hs1 hcs0 hcs1 ha0 (by omega) hc (fun z14 => ?_) _ kk rfl (hk (by omega)).1 (hk (by omega)).2
      refine j_aload_n hc dX2_fillAll_217 rfl ?_
      refine j_get hc dX2_fillAll_218 fX2_28 zp50 rfl ?_
      refine j_iload hc dX2_fillAll_221 rfl ?_
      refine j_iload hc dX2_fillAll_223 rfl ?_
      refine j_iadd hc dX2_fillAll_225 ?_
      refine j_iload hc dX2_fillAll_226 rfl ?_
      refine j_iast hc dX2_fillAll_228 zp51 (by omega) (by omega) ?_
      generalize ezh1 : up _ _ _ = zh1
      have zzland_zh1 := LandAt.mv ezh1 (by simp) hL
      have zP_zh1 := (congrFun ezh1 _).symm.trans ((up_ne (by simp)).trans zp50)
      have zP51_zh1 := (congrFun ezh1 _).symm.trans (up_same _ _ _)
      have zP56_zh1 := (congrFun ezh1 _).symm.trans ((up_ne (by simp)).trans zp56)
      refine j_iinc (L' := [_, _, _, _, _, _, _, _, _, _, _, _, _, _, _]) hc dX2_fillAll_229 rfl (Nat.le_of_ble_eq_true rfl) rfl ?_
      refine j_goto (tgt := 145) hc dX2_fillAll_232 (by decide) ?_
      have zst := faR_step hD hE (cs := cs) (kf := kf) (n := n) (s := s) ha0 hs0
      exact ih _ (by omega) (a + 1) (faR D E cs kf n s a) zh1 (fu kf' (ceS n s + a) (faR D E cs kf n s a)) _ rfl (by omega) (by omega) zzland_zh1 zP_zh1 zP51_zh1 zP56_zh1 (fun b z0 z1 => by
        by_cases ze : b = a
        · rw [ze, fu_same]
        · rw [fu_ne (by omega)]; exact hq1 b z0 (by omega)) (fun x zx => by rw [fu_ne (by omega)]; exact hq2 x zx) (by rw [← ezh1]; exact hfr.push (Or.inl rfl)) (fun z9 => ⟨by omega, zst.1.symm⟩)
set_option maxRecDepth 100000 in
set_option maxHeartbeats 4000000 in
theorem lp_X2_fillAll1 {k : WC} {d : Nat} {w : MC} {h : AH} {l : Int} {D : LaS} {E : LaY} {pl : Int → Option Nm} {i sr cs : Int} {wf : Option Nm} {gn : Nm} {kf : Int → Int} {n s : Int} (hd : 3 ≤ d) (hD : LOK D) (hE : YOK E) (hkf : ∀ x : Int, 0 ≤ x → x < (lSe D).toNat * 492 → 0 ≤ kf x ∧ kf x ≤ 20) (hn1 : 1 ≤ n) (hn : n ≤ 12) (hs0 : 0 ≤ s) (hs1 : s < lSe D) (hcs0 : 0 ≤ cs) (hcs1 : cs ≤ 30)  (hc : Cx w k d 0 0 mdX2_fillAll) (he : Ends w 0 0 (pn fun h' => filP h h' i ((lSe D).toNat * 492) kf (ceS n s) (fun a => faR D E cs kf n s a))) : ∀ (zm : Nat) (kk : Int) (h' : AH) (af' : Int → Int), (21 - kk).toNat = zm → 1 ≤ kk → kk ≤ (faM D E n) + 1 → LandAt h' l D E pl → h' (50, i) = some (oO 2 (pF i l sr cs wf gn)) → h' (51, i) = some (oI ((lSe D).toNat * 492) kf) → h' (56, i) = some (oL 21 af') → (∀ b : Int, 1 ≤ b → b < kk → af' b = faA D kf n s b) → Fr (fun z => z = (51, i) ∨ z = (56, i)) h h' → J w 0 0 30 [some (vR (50, i)), some (vI n), some (vI s), some (vI (nxS D s)), some (vI (faM D E n)), some (vI kk), none, none, none, none, none, none, none, none, none] [] h' := by
  have zM := faM_b hD hE n
  have zM1 : n ≤ 1 → faM D E n = 0 := fun z => by unfold faM; rw [if_neg (by omega)]
  obtain ⟨d1, d2, d3, d4, d5, d6, d7, d8, d9, d10, d11, d12, d13⟩ := id hD
  have zn := nxS_b hD hs0
  have zw := d13 (nxS D s) zn.1 zn.2
  have zle := leS_b hD (k := 0) (by omega)
  intro zm
  induction zm using Nat.strongRecOn with
  | _ zm ih =>
    intro kk h' af' hm hk0 hk1 hL zp50 zp51 zp56 hq1 hfr
    obtain ⟨g30, g31, g32, g33, g34, g35, g36, ⟨f37, g37, q37⟩, ⟨f38, g38, q38⟩, ⟨f39, g39, q39⟩, g40⟩ := id hL
    have zlk := leS_b hD (k := kk) (by omega)
    refine j_iload hc dX2_fillAll_30 rfl ?_
    refine j_iload hc dX2_fillAll_32 rfl ?_
    refine j_icmp_gt (tgt := 67) hc dX2_fillAll_34 (by decide) ⟨by omega, by omega⟩ ⟨by omega, by omega⟩ (fun zc1 => ?_) (fun zc1 => ?_)
    · refine j_aload_n hc dX2_fillAll_67 rfl ?_
      refine j_get hc dX2_fillAll_68 fX2_9 zp50 rfl ?_
      refine j_get hc dX2_fillAll_71 fX2_141 g30 rfl ?_
      refine j_if_le (b := 0) (tgt := 90) hc dX2_fillAll_74 (by decide) ⟨by omega, by omega⟩ (fun zc2 => ?_) (fun zc2 => ?_)
      · refine j_lconst (x := 1) hc dX2_fillAll_90 (by decide) ?_
        refine j_lstore (L' := [_, _, _, _, _, _, _, _, _, _, _, _, _, _, _]) hc dX2_fillAll_91 (Nat.le_of_ble_eq_true rfl) rfl ?_
        refine j_aload_n hc dX2_fillAll_93 rfl ?_
        refine j_get hc dX2_fillAll_94 fX2_9 zp50 rfl ?_
        refine j_get hc dX2_fillAll_97 fX2_141 g30 rfl ?_
        refine j_if_le (b := 0) (tgt := 114) hc dX2_fillAll_100 (by decide) ⟨by omega, by omega⟩ (fun zc3 => ?_) (fun zc3 => ?_)
        · refine j_lconst (x := 1) hc dX2_fillAll_114 (by decide) ?_
          refine j_lstore (L' := [_, _, _, _, _, _, _, _, _, _, _, _, _, _, _]) hc dX2_fillAll_115 (Nat.le_of_ble_eq_true rfl) rfl ?_
          refine j_lload hc dX2_fillAll_117 rfl ?_
          refine j_aload_n hc dX2_fillAll_119 rfl ?_
          refine j_get hc dX2_fillAll_120 fX2_9 zp50 rfl ?_
          refine j_get hc dX2_fillAll_123 fX2_144 g30 rfl ?_
          refine j_iload_n hc dX2_fillAll_126 rfl ?_
          refine j_iald hc dX2_fillAll_127 g35 (by omega) (by omega) ?_
          refine j_i2l hc dX2_fillAll_128 ⟨by omega, by omega⟩ ?_
          refine j_lmul hc dX2_fillAll_129 ?_
          refine j_lstore (L' := [_, _, _, _, _, _, _, _, _, _, _, _, _, _, _]) hc dX2_fillAll_130 (Nat.le_of_ble_eq_true rfl) rfl ?_
          refine j_iload_n hc dX2_fillAll_132 rfl ?_
          refine j_iload_n hc dX2_fillAll_133 rfl ?_
          refine j_callS (d' := d - 1) hc dX2_fillAll_134 sX2_81 (ev_X2_cellOf (by omega)) rfl (by omega) (by omega) (by omega) rfl rfl (Nat.le_of_ble_eq_true rfl) (ret1 ?_)
          refine j_istore (L' := [_, _, _, _, _, _, _, _, _, _, _, _, _, _, _]) hc dX2_fillAll_137 (Nat.le_of_ble_eq_true rfl) rfl ?_
          refine j_iconst hc dX2_fillAll_139 ?_
          refine j_istore (L' := [_, _, _, _, _, _, _, _, _, _, _, _, _, _, _]) hc dX2_fillAll_140 (Nat.le_of_ble_eq_true rfl) rfl ?_
          refine j_iconst hc dX2_fillAll_142 ?_
          refine j_istore (L' := [_, _, _, _, _, _, _, _, _, _, _, _, _, _, _]) hc dX2_fillAll_143 (Nat.le_of_ble_eq_true rfl) rfl ?_
          refine Eq.mp (congrArg (fun z => J w 0 0 145 z [] h') ?_) (lp_X2_fillAll2 (af := af') hd hD hE (fun j z0 z1 => hq1 j z0 (by omega)) hn1 hn hs0 hs1 hcs0 hcs1 hc he _ 0 0 h' kf none rfl (by omega) (by omega) hL zp50 zp51 zp56 (fun b z0 z1 => by omega) (fun x _ => rfl) hfr (fun _ => ⟨by omega, rfl⟩))
          have zre : reS D = (if lMi D > 0 then lMi D - 1 else 1) := rfl
          have zpa : paS D = (if lMi D > 0 then lMi D else 1) := rfl
          first | rw [if_pos (by omega)] at zre zpa | rw [if_neg (by omega)] at zre zpa
          rw [zre, zpa]
          first | rfl | (exfalso; omega)
        · refine j_aload_n hc dX2_fillAll_103 rfl ?_
          refine j_get hc dX2_fillAll_104 fX2_9 zp50 rfl ?_
          refine j_get hc dX2_fillAll_107 fX2_141 g30 rfl ?_
          refine j_i2l hc dX2_fillAll_110 ⟨by omega, by omega⟩ ?_
          refine j_goto (tgt := 115) hc dX2_fillAll_111 (by decide) ?_
          refine j_lstore (L' := [_, _, _, _, _, _, _, _, _, _, _, _, _, _, _]) hc dX2_fillAll_115 (Nat.le_of_ble_eq_true rfl) rfl ?_
          refine j_lload hc dX2_fillAll_117 rfl ?_
          refine j_aload_n hc dX2_fillAll_119 rfl ?_
          refine j_get hc dX2_fillAll_120 fX2_9 zp50 rfl ?_
          refine j_get hc dX2_fillAll_123 fX2_144 g30 rfl ?_
          refine j_iload_n hc dX2_fillAll_126 rfl ?_
          refine j_iald hc dX2_fillAll_127 g35 (by omega) (by omega) ?_
          refine j_i2l hc dX2_fillAll_128 ⟨by omega, by omega⟩ ?_
          refine j_lmul hc dX2_fillAll_129 ?_
          refine j_lstore (L' := [_, _, _, _, _, _, _, _, _, _, _, _, _, _, _]) hc dX2_fillAll_130 (Nat.le_of_ble_eq_true rfl) rfl ?_
          refine j_iload_n hc dX2_fillAll_132 rfl ?_
          refine j_iload_n hc dX2_fillAll_133 rfl ?_
          refine j_callS (d' := d - 1) hc dX2_fillAll_134 sX2_81 (ev_X2_cellOf (by omega)) rfl (by omega) (by omega) (by omega) rfl rfl (Nat.le_of_ble_eq_true rfl) (ret1 ?_)
          refine j_istore (L' := [_, _, _, _, _, _, _, _, _, _, _, _, _, _, _]) hc dX2_fillAll_137 (Nat.le_of_ble_eq_true rfl) rfl ?_
          refine j_iconst hc dX2_fillAll_139 ?_
          refine j_istore (L' := [_, _, _, _, _, _, _, _, _, _, _, _, _, _, _]) hc dX2_fillAll_140 (Nat.le_of_ble_eq_true rfl) rfl ?_
          refine j_iconst hc dX2_fillAll_142 ?_
          refine j_istore (L' := [_, _, _, _, _, _, _, _, _, _, _, _, _, _, _]) hc dX2_fillAll_143 (Nat.le_of_ble_eq_true rfl) rfl ?_
          refine Eq.mp (congrArg (fun z => J w 0 0 145 z [] h') ?_) (lp_X2_fillAll2 (af := af') hd hD hE (fun j z0 z1 => hq1 j z0 (by omega)) hn1 hn hs0 hs1 hcs0 hcs1 hc he _ 0 0 h' kf none rfl (by omega) (by omega) hL zp50 zp51 zp56 (fun b z0 z1 => by omega) (fun x _ => rfl) hfr (fun _ => ⟨by omega, rfl⟩))
          have zre : reS D = (if lMi D > 0 then lMi D - 1 else 1) := rfl
          have zpa : paS D = (if lMi D > 0 then lMi D else 1) := rfl
          first | rw [if_pos (by omega)] at zre zpa | rw [if_neg (by omega)] at zre zpa
          rw [zre, zpa]
          first | rfl | (exfalso; omega)
      · refine j_aload_n hc dX2_fillAll_77 rfl ?_
        refine j_get hc dX2_fillAll_78 fX2_9 zp50 rfl ?_
        refine j_get hc dX2_fillAll_81 fX2_141 g30 rfl ?_
        refine j_iconst hc dX2_fillAll_84 ?_
        refine j_isub hc dX2_fillAll_85 ?_
        refine j_i2l hc dX2_fillAll_86 ⟨by omega, by omega⟩ ?_
        refine j_goto (tgt := 91) hc dX2_fillAll_87 (by decide) ?_
        refine j_lstore (L' := [_, _, _, _, _, _, _, _, _, _, _, _, _, _, _]) hc dX2_fillAll_91 (Nat.le_of_ble_eq_true rfl) rfl ?_
        refine j_aload_n hc dX2_fillAll_93 rfl ?_
        refine j_get hc dX2_fillAll_94 fX2_9 zp50 rfl ?_
        refine j_get hc dX2_fillAll_97 fX2_141 g30 rfl ?_
        refine j_if_le (b := 0) (tgt := 114) hc dX2_fillAll_100 (by decide) ⟨by omega, by omega⟩ (fun zc4 => ?_) (fun zc4 => ?_)
        · refine j_lconst (x := 1) hc dX2_fillAll_114 (by decide) ?_
          refine j_lstore (L' := [_, _, _, _, _, _, _, _, _, _, _, _, _, _, _]) hc dX2_fillAll_115 (Nat.le_of_ble_eq_true rfl) rfl ?_
          refine j_lload hc dX2_fillAll_117 rfl ?_
          refine j_aload_n hc dX2_fillAll_119 rfl ?_
          refine j_get hc dX2_fillAll_120 fX2_9 zp50 rfl ?_
          refine j_get hc dX2_fillAll_123 fX2_144 g30 rfl ?_
          refine j_iload_n hc dX2_fillAll_126 rfl ?_
          refine j_iald hc dX2_fillAll_127 g35 (by omega) (by omega) ?_
          refine j_i2l hc dX2_fillAll_128 ⟨by omega, by omega⟩ ?_
          refine j_lmul hc dX2_fillAll_129 ?_
          refine j_lstore (L' := [_, _, _, _, _, _, _, _, _, _, _, _, _, _, _]) hc dX2_fillAll_130 (Nat.le_of_ble_eq_true rfl) rfl ?_
          refine j_iload_n hc dX2_fillAll_132 rfl ?_
          refine j_iload_n hc dX2_fillAll_133 rfl ?_
          refine j_callS (d' := d - 1) hc dX2_fillAll_134 sX2_81 (ev_X2_cellOf (by omega)) rfl (by omega) (by omega) (by omega) rfl rfl (Nat.le_of_ble_eq_true rfl) (ret1 ?_)
          refine j_istore (L' := [_, _, _, _, _, _, _, _, _, _, _, _, _, _, _]) hc dX2_fillAll_137 (Nat.le_of_ble_eq_true rfl) rfl ?_
          refine j_iconst hc dX2_fillAll_139 ?_
          refine j_istore (L' := [_, _, _, _, _, _, _, _, _, _, _, _, _, _, _]) hc dX2_fillAll_140 (Nat.le_of_ble_eq_true rfl) rfl ?_
          refine j_iconst hc dX2_fillAll_142 ?_
          refine j_istore (L' := [_, _, _, _, _, _, _, _, _, _, _, _, _, _, _]) hc dX2_fillAll_143 (Nat.le_of_ble_eq_true rfl) rfl ?_
          refine Eq.mp (congrArg (fun z => J w 0 0 145 z [] h') ?_) (lp_X2_fillAll2 (af := af') hd hD hE (fun j z0 z1 => hq1 j z0 (by omega)) hn1 hn hs0 hs1 hcs0 hcs1 hc he _ 0 0 h' kf none rfl (by omega) (by omega) hL zp50 zp51 zp56 (fun b z0 z1 => by omega) (fun x _ => rfl) hfr (fun _ => ⟨by omega, rfl⟩))
          have zre : reS D = (if lMi D > 0 then lMi D - 1 else 1) := rfl
          have zpa : paS D = (if lMi D > 0 then lMi D else 1) := rfl
          first | rw [if_pos (by omega)] at zre zpa | rw [if_neg (by omega)] at zre zpa
          rw [zre, zpa]
          first | rfl | (exfalso; omega)
        · refine j_aload_n hc dX2_fillAll_103 rfl ?_
          refine j_get hc dX2_fillAll_104 fX2_9 zp50 rfl ?_
          refine j_get hc dX2_fillAll_107 fX2_141 g30 rfl ?_
          refine j_i2l hc dX2_fillAll_110 ⟨by omega, by omega⟩ ?_
          refine j_goto (tgt := 115) hc dX2_fillAll_111 (by decide) ?_
          refine j_lstore (L' := [_, _, _, _, _, _, _, _, _, _, _, _, _, _, _]) hc dX2_fillAll_115 (Nat.le_of_ble_eq_true rfl) rfl ?_
          refine j_lload hc dX2_fillAll_117 rfl ?_
          refine j_aload_n hc dX2_fillAll_119 rfl ?_
          refine j_get hc dX2_fillAll_120 fX2_9 zp50 rfl ?_
          refine j_get hc dX2_fillAll_123 fX2_144 g30 rfl ?_
          refine j_iload_n hc dX2_fillAll_126 rfl ?_
          refine j_iald hc dX2_fillAll_127 g35 (by omega) (by omega) ?_
          refine j_i2l hc dX2_fillAll_128 ⟨by omega, by omega⟩ ?_
          refine j_lmul hc dX2_fillAll_129 ?_
          refine j_lstore (L' := [_, _, _, _, _, _, _, _, _, _, _, _, _, _, _]) hc dX2_fillAll_130 (Nat.le_of_ble_eq_true rfl) rfl ?_
          refine j_iload_n hc dX2_fillAll_132 rfl ?_
          refine j_iload_n hc dX2_fillAll_133 rfl ?_
          refine j_callS (d' := d - 1) hc dX2_fillAll_134 sX2_81 (ev_X2_cellOf (by omega)) rfl (by omega) (by omega) (by omega) rfl rfl (Nat.le_of_ble_eq_true rfl) (ret1 ?_)
          refine j_istore (L' := [_, _, _, _, _, _, _, _, _, _, _, _, _, _, _]) hc dX2_fillAll_137 (Nat.le_of_ble_eq_true rfl) rfl ?_
          refine j_iconst hc dX2_fillAll_139 ?_
          refine j_istore (L' := [_, _, _, _, _, _, _, _, _, _, _, _, _, _, _]) hc dX2_fillAll_140 (Nat.le_of_ble_eq_true rfl) rfl ?_
          refine j_iconst hc dX2_fillAll_142 ?_
          refine j_istore (L' := [_, _, _, _, _, _, _, _, _, _, _, _, _, _, _]) hc dX2_fillAll_143 (Nat.le_of_ble_eq_true rfl) rfl ?_
          refine Eq.mp (congrArg (fun z => J w 0 0 145 z [] h') ?_) (lp_X2_fillAll2 (af := af') hd hD hE (fun j z0 z1 => hq1 j z0 (by omega)) hn1 hn hs0 hs1 hcs0 hcs1 hc he _ 0 0 h' kf none rfl (by omega) (by omega) hL zp50 zp51 zp56 (fun b z0 z1 => by omega) (fun x _ => rfl) hfr (fun _ => ⟨by omega, rfl⟩))
          have zre : reS D = (if lMi D > 0 then lMi D - 1 else 1) := rfl
          have zpa : paS D = (if lMi D > 0 then lMi D else 1) := rfl
          first | rw [if_pos (by omega)] at zre zpa | rw [if_neg (by omega)] at zre zpa
          rw [zre, zpa]
          first | rfl | (exfalso; omega)
    · refine j_aload_n hc dX2_fillAll_37 rfl ?_
      refine j_get hc dX2_fillAll_38 fX2_51 zp50 rfl ?_
      refine j_iload hc dX2_fillAll_41 rfl ?_
      refine j_aload_n hc dX2_fillAll_43 rfl ?_
      refine j_iload_n hc dX2_fillAll_44 rfl ?_
      refine j_iconst hc dX2_fillAll_45 ?_
      refine j_isub hc dX2_fillAll_46 ?_
      refine j_iload_n hc dX2_fillAll_47 rfl ?_
      refine j_aload_n hc dX2_fillAll_48 rfl ?_
      refine j_get hc dX2_fillAll_49 fX2_9 zp50 rfl ?_
      refine j_iload hc dX2_fillAll_52 rfl ?_
      refine j_callV (d' := d - 1) hc dX2_fillAll_54 vX2_127 g30 (ev_X0_leftOf (by omega) hL hD (by omega) (by omega)) rfl (by omega) (by omega) (by omega) rfl rfl (Nat.le_of_ble_eq_true rfl) (ret1 ?_)
      refine j_callV (d' := d - 1) hc dX2_fillAll_57 vX2_137 zp50 (ev_X2_pricesThen (by omega) hL hD zp50 zp51 hkf (by omega) (by omega) (by omega) (by omega) (by omega) (by omega)) rfl (by omega) (by omega) (by omega) rfl rfl (Nat.le_of_ble_eq_true rfl) (ret1 ?_)
      refine j_last hc dX2_fillAll_60 zp56 (by omega) (by omega) ?_
      generalize ezh1 : up _ _ _ = zh1
      have zL_zh1 := (congrFun ezh1 _).symm.trans ((up_ne (by simp)).trans g30)
      have zL35_zh1 := (congrFun ezh1 _).symm.trans ((up_ne (by simp)).trans g35)
      have zzland_zh1 := LandAt.mv ezh1 (by simp) hL
      have zP_zh1 := (congrFun ezh1 _).symm.trans ((up_ne (by simp)).trans zp50)
      have zP51_zh1 := (congrFun ezh1 _).symm.trans ((up_ne (by simp)).trans zp51)
      have zP56_zh1 := (congrFun ezh1 _).symm.trans (up_same _ _ _)
      refine j_iinc (L' := [_, _, _, _, _, _, _, _, _, _, _, _, _, _, _]) hc dX2_fillAll_61 rfl (Nat.le_of_ble_eq_true rfl) rfl ?_
      refine j_goto (tgt := 30) hc dX2_fillAll_64 (by decide) ?_
      exact ih _ (by omega) (kk + 1) zh1 (fu af' kk (faA D kf n s kk)) rfl (by omega) (by omega) zzland_zh1 zP_zh1 zP51_zh1 zP56_zh1 (fun b z0 z1 => by
        by_cases ze : b = kk
        · rw [ze, fu_same]
        · rw [fu_ne ze]; exact hq1 b z0 (by omega)) (by rw [← ezh1]; exact hfr.push (Or.inr rfl))
set_option maxRecDepth 100000 in
set_option maxHeartbeats 4000000 in
theorem ev_X2_fillAll {k : WC} {d : Nat} {h : AH} {l : Int} {D : LaS} {E : LaY} {pl : Int → Option Nm} {i sr cs : Int} {wf : Option Nm} {gn : Nm} {kf af : Int → Int} {n s : Int} (hd : 3 ≤ d) (hL : LandAt h l D E pl) (hD : LOK D) (hE : YOK E) (zp50 : h (50, i) = some (oO 2 (pF i l sr cs wf gn))) (zp51 : h (51, i) = some (oI ((lSe D).toNat * 492) kf)) (zp56 : h (56, i) = some (oL 21 af)) (hkf : ∀ x : Int, 0 ≤ x → x < (lSe D).toNat * 492 → 0 ≤ kf x ∧ kf x ≤ 20) (hn1 : 1 ≤ n) (hn : n ≤ 12) (hs0 : 0 ≤ s) (hs1 : s < lSe D) (hcs0 : 0 ≤ cs) (hcs1 : cs ≤ 30)  : Ev k d mdX2_fillAll h [vR (50, i), vI n, vI s] 0 0 (pn fun h' => filP h h' i ((lSe D).toNat * 492) kf (ceS n s) (fun a => faR D E cs kf n s a)) := by
  obtain ⟨g30, g31, g32, g33, g34, g35, g36, ⟨f37, g37, q37⟩, ⟨f38, g38, q38⟩, ⟨f39, g39, q39⟩, g40⟩ := id hL
  obtain ⟨d1, d2, d3, d4, d5, d6, d7, d8, d9, d10, d11, d12, d13⟩ := id hD
  have zM := faM_b hD hE n
  refine Ev.mk (by decide +kernel) [_, _, _, _, _, _, _, _, _, _, _, _, _, _, _] rfl (Nat.le_of_ble_eq_true rfl) (fun w hc he => ?_)
  refine j_aload_n hc dX2_fillAll_0 rfl ?_
  refine j_get hc dX2_fillAll_1 fX2_9 zp50 rfl ?_
  refine j_iload_n hc dX2_fillAll_4 rfl ?_
  refine j_callV (d' := d - 1) hc dX2_fillAll_5 vX2_105 g30 (ev_X0_seasonBehind (by omega) hL hD (by omega) (by omega)) rfl (by omega) (by omega) (by omega) rfl rfl (Nat.le_of_ble_eq_true rfl) (ret1 ?_)
  refine j_istore_n (L' := [_, _, _, _, _, _, _, _, _, _, _, _, _, _, _]) hc dX2_fillAll_8 (Nat.le_of_ble_eq_true rfl) rfl ?_
  refine j_iload_n hc dX2_fillAll_9 rfl ?_
  refine j_iconst hc dX2_fillAll_10 ?_
  refine j_icmp_le (tgt := 24) hc dX2_fillAll_11 (by decide) ⟨by omega, by omega⟩ ⟨by omega, by omega⟩ (fun zc1 => ?_) (fun zc1 => ?_)
  · refine j_iconst hc dX2_fillAll_24 ?_
    refine j_istore (L' := [_, _, _, _, _, _, _, _, _, _, _, _, _, _, _]) hc dX2_fillAll_25 (Nat.le_of_ble_eq_true rfl) rfl ?_
    refine j_iconst hc dX2_fillAll_27 ?_
    refine j_istore (L' := [_, _, _, _, _, _, _, _, _, _, _, _, _, _, _]) hc dX2_fillAll_28 (Nat.le_of_ble_eq_true rfl) rfl ?_
    refine Eq.mp (congrArg (fun z => J w 0 0 30 z [] h) ?_) (lp_X2_fillAll1 hd hD hE hkf hn1 hn hs0 hs1 hcs0 hcs1 hc he _ 1 h af rfl (by omega) (by omega) hL zp50 zp51 zp56 (fun b z0 z1 => by omega) (Fr.rf _ _))
    have zf : faM D E n = (if n > 1 then moS D E else 0) := rfl
    first | rw [if_pos (by omega)] at zf | rw [if_neg (by omega)] at zf
    rw [zf]
  · refine j_aload_n hc dX2_fillAll_14 rfl ?_
    refine j_get hc dX2_fillAll_15 fX2_9 zp50 rfl ?_
    refine j_callV (d' := d - 1) hc dX2_fillAll_18 vX2_112 g30 (ev_X0_mostKept (by omega) hL hD hE) rfl (by omega) (by omega) (by omega) rfl rfl (Nat.le_of_ble_eq_true rfl) (ret1 ?_)
    refine j_goto (tgt := 25) hc dX2_fillAll_21 (by decide) ?_
    refine j_istore (L' := [_, _, _, _, _, _, _, _, _, _, _, _, _, _, _]) hc dX2_fillAll_25 (Nat.le_of_ble_eq_true rfl) rfl ?_
    refine j_iconst hc dX2_fillAll_27 ?_
    refine j_istore (L' := [_, _, _, _, _, _, _, _, _, _, _, _, _, _, _]) hc dX2_fillAll_28 (Nat.le_of_ble_eq_true rfl) rfl ?_
    refine Eq.mp (congrArg (fun z => J w 0 0 30 z [] h) ?_) (lp_X2_fillAll1 hd hD hE hkf hn1 hn hs0 hs1 hcs0 hcs1 hc he _ 1 h af rfl (by omega) (by omega) hL zp50 zp51 zp56 (fun b z0 z1 => by omega) (Fr.rf _ _))
    have zf : faM D E n = (if n > 1 then moS D E else 0) := rfl
    first | rw [if_pos (by omega)] at zf | rw [if_neg (by omega)] at zf
    rw [zf]
