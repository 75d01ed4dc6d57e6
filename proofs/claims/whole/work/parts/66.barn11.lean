/-! ===== runs ===== -/
/-- what a run shows does not hang on what stood there before -/
theorem syN_f0 {D : LaS} {E : LaY} {sr : Int} {kq : Int → Int → Int} {rf : Int → Int} {f0 f1 : Int → Int} {b0 : Int} : ∀ i : Nat, (syN D E sr kq rf f0 b0 i).2 = (syN D E sr kq rf f1 b0 i).2
  | 0 => rfl
  | i + 1 => by
    have h := syN_f0 (D := D) (E := E) (sr := sr) (kq := kq) (rf := rf) (f0 := f0) (f1 := f1) (b0 := b0) i
    simp only [syN, sy1]
    rw [h]
def syT (D : LaS) (E : LaY) (sr : Int) (kq : Int → Int → Int) (rf : Int → Int) (b0 : Int) (i : Nat) : Int × Int × Int × Int := (syN D E sr kq rf (fun _ => 0) b0 i).2
/-- brought, stock, paid behind the granary in season i -/
def syG (D : LaS) (E : LaY) (sr : Int) (kq : Int → Int → Int) (rf : Int → Int) (b0 : Int) (i : Nat) : Int × Int × Int := gtT D E sr ((syT D E sr kq rf b0 i).2.1 + rf i - kq (syT D E sr kq rf b0 i).1 ((syT D E sr kq rf b0 i).2.1 + rf i), (syT D E sr kq rf b0 i).2.2.1, (syT D E sr kq rf b0 i).2.2.2)
def hyS (D : LaS) (E : LaY) (sr : Int) (kq : Int → Int → Int) (rf : Int → Int) (b0 : Int) (i : Nat) : Int := lNe D - eaS D sr (syG D E sr kq rf b0 i).1
theorem wrS_lo {f : Int → Int} {p a b c d e g q x : Int} (h : x < p ∨ p + 6 < x) : wrS f p a b c d e g q x = f x := by
  unfold wrS
  rw [fu_ne (by omega), fu_ne (by omega), fu_ne (by omega), fu_ne (by omega), fu_ne (by omega), fu_ne (by omega), fu_ne (by omega)]
theorem wrS_4 {f : Int → Int} {p a b c d e g q : Int} : wrS f p a b c d e g q (p + 4) = e := by
  unfold wrS
  rw [fu_ne (by omega), fu_ne (by omega), fu_same]
theorem syN_4 {D : LaS} {E : LaY} {sr : Int} {kq : Int → Int → Int} {rf : Int → Int} {f0 : Int → Int} {b0 : Int} : ∀ (m i : Nat), i < m → (syN D E sr kq rf f0 b0 m).1 (plS 0 i + 4) = hyS D E sr kq rf b0 i
  | 0, i, h => by omega
  | m + 1, i, h => by
    by_cases e : i = m
    · subst e
      simp only [syN, sy1]
      rw [wrS_4]
      unfold hyS syG syT
      rw [syN_f0 (f0 := f0) (f1 := fun _ => 0) i]
    · have h2 := syN_4 (D := D) (E := E) (sr := sr) (kq := kq) (rf := rf) (f0 := f0) (b0 := b0) m i (by omega)
      simp only [syN, sy1]
      rw [wrS_lo (by unfold plS; omega)]
      exact h2
theorem huN_sy {D : LaS} {E : LaY} {sr : Int} {kq : Int → Int → Int} {rf : Int → Int} {f0 : Int → Int} {b0 : Int} (m : Nat) : ∀ j : Nat, j ≤ m → huN (syN D E sr kq rf f0 b0 m).1 j = suF (hyS D E sr kq rf b0) j
  | 0, _ => rfl
  | j + 1, h => by
    simp only [huN, suF]
    rw [huN_sy m j (by omega), syN_4 m j (by omega)]
set_option maxRecDepth 100000 in
set_option maxHeartbeats 4000000 in
theorem ev_X10_goAlone {k : WC} {d : Nat} {h : AH} {S : BaS} {l : Int} {D : LaS} {E : LaY} {pl : Int → Option Nm} {i sr cs : Int} {wf : Option Nm} {gn : Nm} {kf rf rl : Int → Int} {kq : Int → Int → Int} {j : Int} {N m : Nat} {f0 : Int → Int} {b n : Int} {tc se sp : Int} (hd : 8 ≤ d) (hB0 : h (0, 0) = some (oO 9 (CoF S))) (h13 : h (13, 0) = some (oA 5 2 (fun i => some (14, i)))) (h14 : h (14, 0) = some (oI 40 rf)) (h15 : h (15, 0) = some (oI 2 rl)) (h18 : h (18, 0) = some (oA 7 2 (fun i => some (19, i)))) (hTw : TwO h 0) (hm : rl 0 = m) (hL : LandAt h l D E pl) (hD : LOK D) (hE : YOK E) (hN : 280 ≤ N) (hm40 : m ≤ 40) (hkq : ∀ s a : Int, 0 ≤ s → s < lSe D → 0 ≤ a → a ≤ 40 → kf (ceS n s + a) = kq s a) (hkb : kqOK D kq) (hrf : ∀ x : Int, 0 ≤ x → x < 40 → 0 ≤ rf x ∧ rf x ≤ 20) (hb0 : 0 ≤ b) (hb1 : b ≤ 20) (hn1 : 1 ≤ n) (hn : n ≤ 12) (hsr0 : 0 ≤ sr) (hsr1 : sr ≤ 4) (zp50 : h (50, i) = some (oO 2 (pF i l sr cs wf gn))) (zp51 : h (51, i) = some (oI ((lSe D).toNat * 492) kf)) (zS : h (20, j) = some (oO 6 [vR (21, j), vI tc, vI se, vI sp])) (zS1 : h (21, j) = some (oI N f0))  : Ev k d mdX10_goAlone h [vR (0, 0), vR (20, j), vR (50, i), vI n, vI b] 0 0 (pn fun h' => h' (20, j) = some (oO 6 [vR (21, j), vI 1, vI m, vI (syN D E sr kq rf f0 b m).2.2.2.2]) ∧ h' (21, j) = some (oI N (syN D E sr kq rf f0 b m).1) ∧ TwO h' 0 ∧ Fr (fun z => z = (19, 0) ∨ z = (20, j) ∨ z = (21, j)) h h') := by
  obtain ⟨to1, tam, tke, tbr, tst, tpd, to2, tfb, zTw⟩ := id hTw
  refine Ev.mk (by decide +kernel) [_, _, _, _, _] rfl (Nat.le_of_ble_eq_true rfl) (fun w hc he => ?_)
  refine j_aload_n hc dX10_goAlone_0 rfl ?_
  refine j_get hc dX10_goAlone_1 fX10_62 hB0 rfl ?_
  refine j_iconst hc dX10_goAlone_4 ?_
  refine j_aald hc dX10_goAlone_5 h18 (by decide) (by decide) (by omega) (by omega) ?_
  refine j_aload_n hc dX10_goAlone_6 rfl ?_
  refine j_aload_n hc dX10_goAlone_7 rfl ?_
  refine j_get hc dX10_goAlone_8 fX10_46 hB0 rfl ?_
  refine j_iconst hc dX10_goAlone_11 ?_
  refine j_aald hc dX10_goAlone_12 h13 (by decide) (by decide) (by omega) (by omega) ?_
  refine j_iload hc dX10_goAlone_13 rfl ?_
  refine j_callV (d' := d - 1) hc dX10_goAlone_15 vX10_279 zTw (ev_X9_begin (rn := (14, 0)) (i := i) (by omega) zTw) rfl (by omega) (by omega) (by omega) rfl rfl (Nat.le_of_ble_eq_true rfl) (retN fun zq15 zp15 => ?_)
  obtain ⟨zT5, zF5⟩ := zp15
  have zB_q15 := (zF5 _ (by first | (simp; done) | (simp; omega))).trans hB0
  have zA13_q15 := (zF5 _ (by first | (simp; done) | (simp; omega))).trans h13
  have zW0_q15 := (zF5 _ (by first | (simp; done) | (simp; omega))).trans h14
  have zA15_q15 := (zF5 _ (by first | (simp; done) | (simp; omega))).trans h15
  have zA18_q15 := (zF5 _ (by first | (simp; done) | (simp; omega))).trans h18
  have zzland_q15 := LandAt.fr (fun zj z0 z1 => zF5 (zj, l) (by first | (simp; done) | (simp; omega))) hL
  have zP_q15 := (zF5 _ (by first | (simp; done) | (simp; omega))).trans zp50
  have zP51_q15 := (zF5 _ (by first | (simp; done) | (simp; omega))).trans zp51
  have zS0_q15 := (zF5 _ (by first | (simp; done) | (simp; omega))).trans zS
  have zS021_q15 := (zF5 _ (by first | (simp; done) | (simp; omega))).trans zS1
  refine j_aload_n hc dX10_goAlone_18 rfl ?_
  refine j_aload_n hc dX10_goAlone_19 rfl ?_
  refine j_get hc dX10_goAlone_20 fX10_62 zB_q15 rfl ?_
  refine j_iconst hc dX10_goAlone_23 ?_
  refine j_aald hc dX10_goAlone_24 zA18_q15 (by decide) (by decide) (by omega) (by omega) ?_
  refine j_iload_n hc dX10_goAlone_25 rfl ?_
  refine j_aload_n hc dX10_goAlone_26 rfl ?_
  refine j_get hc dX10_goAlone_27 fX10_49 zB_q15 rfl ?_
  refine j_iconst hc dX10_goAlone_30 ?_
  refine j_iald hc dX10_goAlone_31 zA15_q15 (by omega) (by omega) ?_
  rw [hm]
  refine j_callV (d' := d - 1) hc dX10_goAlone_32 vX10_310 zS0_q15 (ev_X7_tellOfOne (m := m) (by omega) zzland_q15 hD hE rfl hN hm40 hkq hkb hrf hb0 hb1 hn1 hn hsr0 hsr1 zP_q15 zT5 zP51_q15 zW0_q15 zS0_q15 zS021_q15) rfl (by omega) (by omega) (by omega) rfl rfl (Nat.le_of_ble_eq_true rfl) (retN fun zq32 zp32 => ?_)
  exact j_vret hc he dX10_goAlone_35 rfl (by omega) (by omega) (by obtain ⟨y1, y2, ⟨am, ke, br, st, pd, fb, y3⟩, y4⟩ := zp32; exact ⟨rfl, y1, y2, ⟨_, _, _, _, _, _, _, _, y3⟩, (zF5.mono fun z zz => Or.inl zz).tr y4⟩)
theorem BarnAt.story {h h' : AH} {S : BaS} {c : Int → Int} {t m p : Int} (a : BarnAt h S) (F : Fr (fun z => 19 ≤ z.1 ∧ z.1 ≤ 21) h h') (hT : TwA h') (h0 : h' (20, 0) = some (oO 6 [vR (21, 0), vI t, vI m, vI p])) (h1 : h' (21, 0) = some (oI 560 c)) (h2 : ∃ (tc se sp : Int) (f : Int → Int), h' (20, 1) = some (oO 6 [vR (21, 1), vI tc, vI se, vI sp]) ∧ h' (21, 1) = some (oI 280 f)) (ht : 0 ≤ t ∧ t ≤ 2) (hm : 0 ≤ m ∧ m ≤ 40) : BarnAt h' (sSt S c t m p) ∧ Fr isBa h h' := by
  obtain ⟨a1, a2, a3, a4, a5, k1, k2, k3, k4, k5, k6, k7⟩ := a
  have q : ∀ z : Nm, z.1 < 19 ∨ 21 < z.1 → h' z = h z := fun z hz => F z (by show ¬ (_ ∧ _); omega)
  exact ⟨⟨BaC.fr (S := S) (fun z hz => q z (by omega)) a1, a2.fr fun z hz => q z (by omega), hT, ⟨h0, h1, h2⟩, BaL.fr (S := S) (fun z hz => q z (by omega)) a5, k1, k2, k3, k4, k5, k6, ht, hm⟩, F.mono fun z zz => by show z.1 < 70; omega⟩
theorem BarnAt.story0 {h h' : AH} {S : BaS} (a : BarnAt h S) (F : Fr (fun z => 19 ≤ z.1 ∧ z.1 ≤ 21) h h') (hT : TwA h') (h0 : h' (20, 0) = h (20, 0)) (h1 : h' (21, 0) = h (21, 0)) (h2 : ∃ (tc se sp : Int) (f : Int → Int), h' (20, 1) = some (oO 6 [vR (21, 1), vI tc, vI se, vI sp]) ∧ h' (21, 1) = some (oI 280 f)) : BarnAt h' S ∧ Fr isBa h h' := by
  obtain ⟨a1, a2, a3, a4, a5, k1, k2, k3, k4, k5, k6, k7⟩ := a
  have q : ∀ z : Nm, z.1 < 19 ∨ 21 < z.1 → h' z = h z := fun z hz => F z (by show ¬ (_ ∧ _); omega)
  exact ⟨⟨BaC.fr (S := S) (fun z hz => q z (by omega)) a1, a2.fr fun z hz => q z (by omega), hT, ⟨h0.trans a4.1, h1.trans a4.2.1, h2⟩, BaL.fr (S := S) (fun z hz => q z (by omega)) a5, k1, k2, k3, k4, k5, k6, k7⟩, F.mono fun z zz => by show z.1 < 70; omega⟩
abbrev rnV (S : BaS) (l sr n b : Int) : Prop := paV S l sr n ∧ 0 ≤ b ∧ b ≤ 20
def kqS (S : BaS) (l sr n : Int) : Int → Int → Int := fun s a => kpA S l sr n s a
def ruS (S : BaS) (l sr n b : Int) (f0 : Int → Int) : SyS := syN (bD S l) (bE S l) sr (kqS S l sr n) (bRw S 0) f0 b (bRl S 0).toNat
def nRun (S : BaS) (l sr n b : Int) : BaS := if rnV S l sr n b then sSt S (ruS S l sr n b (bCe S)).1 1 (bRl S 0) (ruS S l sr n b (bCe S)).2.2.2.2 else S
def hgS (S : BaS) (l sr n b : Int) : Int := suF (hyS (bD S l) (bE S l) sr (kqS S l sr n) (bRw S 0) b) (bRl S 0).toNat
def aBlame (S : BaS) (l sr n b : Int) : Int := if rnV S l sr n b then hgS S l sr n b - hgS S l 0 n b else -100000
set_option maxRecDepth 100000 in
set_option maxHeartbeats 4000000 in
theorem ev_X10_run_a {k : WC} {d : Nat} {h : AH} {S : BaS} {l sr n b : Int} (hd : 12 ≤ d) (hB : BarnAt h S) (hil : inI l) (hir : inI sr) (hin : inI n) (hib : inI b) : Ev k d mdX10_run h [vR (0, 0), vI l, vI sr, vI n, vI b] 6 3975 (pe fun v h' => v = vI (if rnV S l sr n b then bRl S 0 else -1) ∧ BarnAt h' (nRun S l sr n b) ∧ Fr isBa h h') := by
  obtain ⟨⟨⟨zb0, zb11, zb12, zb13, zb14, zb141, zb15, zb18⟩, zTp, zRd⟩, zSp, zTw, zSt, zL, zK⟩ := id hB
  obtain ⟨zT1, ⟨zlc0, zlc1⟩, ⟨zrc0, zrc1⟩, zKl, zKr, zKw, ⟨zto0, zto1⟩, zse0, zse1⟩ := id zK
  by_cases hcs : paV S l sr n
  · skip
    obtain ⟨hvl, ⟨hn1, hn⟩, hsr0, hsr1⟩ := id hcs
    obtain ⟨hl0, hl1⟩ := id hvl
    obtain ⟨hD, hE, hyr, hyo⟩ := zKl l hl0 hl1
    have hd1 := hD.1
    refine Ev.mk (by decide +kernel) [_, _, _, _, _, _] rfl (Nat.le_of_ble_eq_true rfl) (fun w hc he => ?_)
    refine j_aload_n hc dX10_run_0 rfl ?_
    refine j_iload_n hc dX10_run_1 rfl ?_
    refine j_iload_n hc dX10_run_2 rfl ?_
    refine j_iload_n hc dX10_run_3 rfl ?_
    refine j_callV (d' := d - 1) hc dX10_run_4 vX10_247 zb0 (ev_X10_planForAllSeasons_ok (by omega) hB hcs) rfl (by omega) (by omega) (by omega) rfl rfl (Nat.le_of_ble_eq_true rfl) (retE fun zv4 zq4 zp4 => ?_)
    obtain ⟨zv8, zPl⟩ := zp4
    subst zv8
    have zB8 := zPl.barn hB hl0 hl1 (by omega) (by omega)
    obtain ⟨pl8, wf8, kf8, bf8, lf8, wl8, zX8, zH8, zn8, zR8, zF8⟩ := id zPl
    have zsrj : srj sr = sr := by unfold srj; rw [if_neg (by omega)]
    have zP8 := zH8.2.2.2.1
    rw [zsrj] at zP8
    have zV8 := zP8.2.2.2.2.2.2
    have zrow : ∀ q b : Int, 0 ≤ q → q < lSe (bD S l) → 0 ≤ b → b ≤ 40 → kf8 (ceS n q + b) = kqS S l sr n q b := fun q b q0 q1 b0 b1 => (PlV.row hD zV8 hn1 q0 q1 (zn8 q q0 q1) b0 b1).1
    have zFb := zF8.mono fun z zz => isLo_ba (isSp_lo (S := S) hsr0 (by omega) zz)
    obtain ⟨zk1, zk2, zk3⟩ := zKw 0 (by omega) (by omega)
    refine j_astore (L' := [_, _, _, _, _, _]) hc dX10_run_7 (Nat.le_of_ble_eq_true rfl) rfl ?_
    refine j_aload hc dX10_run_9 rfl ?_
    refine j_ifnull (tgt := 25) hc dX10_run_11 (by decide) (fun zc1 => ?_) (fun zc1 => ?_)
    · exact absurd zc1 (by simp)
    · refine j_iload hc dX10_run_14 rfl ?_
      refine j_iconst hc dX10_run_16 ?_
      refine j_bipush hc dX10_run_17 (by decide) ?_
      refine j_callS (d' := d - 1) hc dX10_run_19 sX10_90 (ev_X10_within (by omega) hib ⟨by omega, by omega⟩ ⟨by omega, by omega⟩) rfl (by omega) (by omega) (by omega) rfl rfl (Nat.le_of_ble_eq_true rfl) (ret1 ?_)
      refine j_if_ne (b := 0) (tgt := 27) hc dX10_run_22 (by decide) (by split <;> exact ⟨by omega, by omega⟩) (fun zc2 => ?_) (fun zc2 => ?_)
      · have zw : 0 ≤ b ∧ b ≤ 20 := one_pos zc2
        refine j_aload_n hc dX10_run_27 rfl ?_
        refine j_aload_n hc dX10_run_28 rfl ?_
        refine j_get hc dX10_run_29 fX10_72 zB8.1.1.1 rfl ?_
        refine j_aload hc dX10_run_32 rfl ?_
        refine j_iload_n hc dX10_run_34 rfl ?_
        refine j_iload hc dX10_run_35 rfl ?_
        refine j_callV (d' := d - 1) hc dX10_run_37 vX10_274 zB8.1.1.1 (ev_X10_goAlone (S := S) (kq := kqS S l sr n) (rf := bRw S 0) (m := (bRl S 0).toNat) (N := 560) (by omega) zB8.1.1.1 zB8.1.1.2.2.2.1 zB8.1.1.2.2.2.2.1 zB8.1.1.2.2.2.2.2.2.1 zB8.1.1.2.2.2.2.2.2.2 zB8.2.2.1.1 (by omega) zX8.1 hD hE (by omega) (by omega) zrow (kqA zK hl0 hl1 hn1) zk3 zw.1 zw.2 hn1 hn hsr0 hsr1 zP8.1 zP8.2.1 zB8.2.2.2.1.1 zB8.2.2.2.1.2.1) rfl (by omega) (by omega) (by omega) rfl rfl (Nat.le_of_ble_eq_true rfl) (retN fun zq37 zp37 => ?_)
        obtain ⟨zy1, zy2, zy3, zy4⟩ := zp37
        have zyB := (zy4 (0, 0) (by simp)).trans zB8.1.1.1
        refine j_aload_n hc dX10_run_40 rfl ?_
        refine j_get hc dX10_run_41 fX10_72 zyB rfl ?_
        refine j_get hc dX10_run_44 fX10_278 zy1 rfl ?_
        exact j_iret hc he dX10_run_47 rfl (by omega) (by omega) (by
          have zz := zB8.story (c := (ruS S l sr n b (bCe S)).1) (t := 1) (m := bRl S 0) (p := (ruS S l sr n b (bCe S)).2.2.2.2) (zy4.mono fun z zz => by rcases zz with rfl | rfl | rfl <;> simp) ⟨zy3, (by obtain ⟨q1, q2, q3, q4, q5, q6, q7, q8, q9⟩ := zB8.2.2.1.2; exact ⟨q1, q2, q3, q4, q5, q6, q7, q8, (zy4 _ (by simp)).trans q9⟩)⟩ (zy1.trans (by rw [show (((bRl S 0).toNat : Nat) : Int) = bRl S 0 by omega]; rfl)) zy2 (by obtain ⟨tc, se, sp, f, q1, q2⟩ := zB8.2.2.2.1.2.2; exact ⟨tc, se, sp, f, (zy4 _ (by simp)).trans q1, (zy4 _ (by simp)).trans q2⟩) ⟨by omega, by omega⟩ ⟨by omega, by omega⟩
          exact ⟨_, rfl, by rw [if_pos ⟨hcs, zw⟩, show (((bRl S 0).toNat : Nat) : Int) = bRl S 0 by omega], by unfold nRun; rw [if_pos ⟨hcs, zw⟩]; exact zz.1, zFb.tr zz.2⟩)
      · have zw : ¬ (0 ≤ b ∧ b ≤ 20) := one_neg zc2
        refine j_iconst hc dX10_run_25 ?_
        exact j_iret hc he dX10_run_26 rfl (by omega) (by omega) ⟨_, rfl, by rw [if_neg (fun z => zw z.2)], by unfold nRun; rw [if_neg (fun z => zw z.2)]; exact zB8, zFb⟩
  · skip
    refine Ev.mk (by decide +kernel) [_, _, _, _, _, _] rfl (Nat.le_of_ble_eq_true rfl) (fun w hc he => ?_)
    refine j_aload_n hc dX10_run_0 rfl ?_
    refine j_iload_n hc dX10_run_1 rfl ?_
    refine j_iload_n hc dX10_run_2 rfl ?_
    refine j_iload_n hc dX10_run_3 rfl ?_
    refine j_callV (d' := d - 1) hc dX10_run_4 vX10_247 zb0 (ev_X10_planForAllSeasons_no (by omega) hB hil hir hin hcs) rfl (by omega) (by omega) (by omega) rfl rfl (Nat.le_of_ble_eq_true rfl) (ret1 ?_)
    refine j_astore (L' := [_, _, _, _, _, _]) hc dX10_run_7 (Nat.le_of_ble_eq_true rfl) rfl ?_
    refine j_aload hc dX10_run_9 rfl ?_
    refine j_ifnull (tgt := 25) hc dX10_run_11 (by decide) (fun zc1 => ?_) (fun zc1 => ?_)
    · refine j_iconst hc dX10_run_25 ?_
      exact j_iret hc he dX10_run_26 rfl (by omega) (by omega) ⟨_, rfl, by rw [if_neg (fun z => hcs z.1)], by unfold nRun; rw [if_neg (fun z => hcs z.1)]; exact hB, Fr.rf _ _⟩
    · exact absurd rfl zc1
set_option maxRecDepth 100000 in
set_option maxHeartbeats 4000000 in
theorem ev_X10_blame_a {k : WC} {d : Nat} {h : AH} {S : BaS} {l sr n b : Int} (hd : 12 ≤ d) (hB : BarnAt h S) (hil : inI l) (hir : inI sr) (hin : inI n) (hib : inI b) : Ev k d mdX10_blame h [vR (0, 0), vI l, vI sr, vI n, vI b] 12 7950 (pe fun v h' => v = vI (aBlame S l sr n b) ∧ BarnAt h' S ∧ Fr isBa h h') := by
  obtain ⟨⟨⟨zb0, zb11, zb12, zb13, zb14, zb141, zb15, zb18⟩, zTp, zRd⟩, zSp, zTw, zSt, zL, zK⟩ := id hB
  obtain ⟨zT1, ⟨zlc0, zlc1⟩, ⟨zrc0, zrc1⟩, zKl, zKr, zKw, ⟨zto0, zto1⟩, zse0, zse1⟩ := id zK
  by_cases hcs : paV S l sr n
  · skip
    obtain ⟨hvl, ⟨hn1, hn⟩, hsr0, hsr1⟩ := id hcs
    obtain ⟨hl0, hl1⟩ := id hvl
    obtain ⟨hD, hE, hyr, hyo⟩ := zKl l hl0 hl1
    have hd1 := hD.1
    refine Ev.mk (by decide +kernel) [_, _, _, _, _, _, _] rfl (Nat.le_of_ble_eq_true rfl) (fun w hc he => ?_)
    refine j_aload_n hc dX10_blame_0 rfl ?_
    refine j_iload_n hc dX10_blame_1 rfl ?_
    refine j_iload_n hc dX10_blame_2 rfl ?_
    refine j_iload_n hc dX10_blame_3 rfl ?_
    refine j_callV (d' := d - 1) hc dX10_blame_4 vX10_247 zb0 (ev_X10_planForAllSeasons_ok (by omega) hB hcs) rfl (by omega) (by omega) (by omega) rfl rfl (Nat.le_of_ble_eq_true rfl) (retE fun zv4 zq4 zp4 => ?_)
    obtain ⟨zv8, zPl⟩ := zp4
    subst zv8
    have zB8 := zPl.barn hB hl0 hl1 (by omega) (by omega)
    obtain ⟨pl8, wf8, kf8, bf8, lf8, wl8, zX8, zH8, zn8, zR8, zF8⟩ := id zPl
    have zsrj : srj sr = sr := by unfold srj; rw [if_neg (by omega)]
    have zP8 := zH8.2.2.2.1
    rw [zsrj] at zP8
    have zV8 := zP8.2.2.2.2.2.2
    have zrow : ∀ q b : Int, 0 ≤ q → q < lSe (bD S l) → 0 ≤ b → b ≤ 40 → kf8 (ceS n q + b) = kqS S l sr n q b := fun q b q0 q1 b0 b1 => (PlV.row hD zV8 hn1 q0 q1 (zn8 q q0 q1) b0 b1).1
    have zFb := zF8.mono fun z zz => isLo_ba (isSp_lo (S := S) hsr0 (by omega) zz)
    obtain ⟨zk1, zk2, zk3⟩ := zKw 0 (by omega) (by omega)
    refine j_astore (L' := [_, _, _, _, _, _, _]) hc dX10_blame_7 (Nat.le_of_ble_eq_true rfl) rfl ?_
    refine j_aload hc dX10_blame_9 rfl ?_
    refine j_ifnull (tgt := 25) hc dX10_blame_11 (by decide) (fun zc1 => ?_) (fun zc1 => ?_)
    · exact absurd zc1 (by simp)
    · refine j_iload hc dX10_blame_14 rfl ?_
      refine j_iconst hc dX10_blame_16 ?_
      refine j_bipush hc dX10_blame_17 (by decide) ?_
      refine j_callS (d' := d - 1) hc dX10_blame_19 sX10_90 (ev_X10_within (by omega) hib ⟨by omega, by omega⟩ ⟨by omega, by omega⟩) rfl (by omega) (by omega) (by omega) rfl rfl (Nat.le_of_ble_eq_true rfl) (ret1 ?_)
      refine j_if_ne (b := 0) (tgt := 29) hc dX10_blame_22 (by decide) (by split <;> exact ⟨by omega, by omega⟩) (fun zc2 => ?_) (fun zc2 => ?_)
      · have zw : 0 ≤ b ∧ b ≤ 20 := one_pos zc2
        obtain ⟨tc9, se9, sp9, f9, za1, za2⟩ := zB8.2.2.2.1.2.2
        refine j_aload_n hc dX10_blame_29 rfl ?_
        refine j_aload_n hc dX10_blame_30 rfl ?_
        refine j_get hc dX10_blame_31 fX10_76 zB8.1.1.1 rfl ?_
        refine j_aload hc dX10_blame_34 rfl ?_
        refine j_iload_n hc dX10_blame_36 rfl ?_
        refine j_iload hc dX10_blame_37 rfl ?_
        refine j_callV (d' := d - 1) hc dX10_blame_39 vX10_274 zB8.1.1.1 (ev_X10_goAlone (S := S) (kq := kqS S l sr n) (rf := bRw S 0) (m := (bRl S 0).toNat) (N := 280) (by omega) zB8.1.1.1 zB8.1.1.2.2.2.1 zB8.1.1.2.2.2.2.1 zB8.1.1.2.2.2.2.2.2.1 zB8.1.1.2.2.2.2.2.2.2 zB8.2.2.1.1 (by omega) zX8.1 hD hE (by omega) (by omega) zrow (kqA zK hl0 hl1 hn1) zk3 zw.1 zw.2 hn1 hn hsr0 hsr1 zP8.1 zP8.2.1 za1 za2) rfl (by omega) (by omega) (by omega) rfl rfl (Nat.le_of_ble_eq_true rfl) (retN fun zq39 zp39 => ?_)
        obtain ⟨zy1, zy2, zy3, zy4⟩ := zp39
        have zyB := (zy4 (0, 0) (by simp)).trans zB8.1.1.1
        have zyP := (zy4 (50, 6 * l + sr) (by simp)).trans zP8.1
        have zyX : LandX zq39 l (bD S l) (bE S l) (ruC S l) sr _ := zX8.fr fun z hz => zy4 z (fun y => by rcases y with rfl | rfl | rfl <;> simp at hz)
        have zyL := zyX.1
        have zyH := zH8.fr fun q q0 q1 => zy4 (q, 6 * l + sr) (by simp; omega)
        have zB7 := (zB8.story0 (zy4.mono fun z zz => by rcases zz with rfl | rfl | rfl <;> simp) ⟨zy3, (by obtain ⟨q1, q2, q3, q4, q5, q6, q7, q8, q9⟩ := zB8.2.2.1.2; exact ⟨q1, q2, q3, q4, q5, q6, q7, q8, (zy4 _ (by simp)).trans q9⟩)⟩ (zy4 _ (by simp)) (zy4 _ (by simp)) ⟨_, _, _, _, zy1, zy2⟩)
        refine j_aload_n hc dX10_blame_42 rfl ?_
        refine j_get hc dX10_blame_43 fX10_76 zyB rfl ?_
        refine j_callV (d' := d - 1) hc dX10_blame_46 vX10_303 zy1 (ev_X7_hungryInAll (by omega) zy1 zy2 (by omega) (by omega)) rfl (by omega) (by omega) (by omega) rfl rfl (Nat.le_of_ble_eq_true rfl) (ret1 ?_)
        rw [huN_sy (bRl S 0).toNat (bRl S 0).toNat (Nat.le_refl _)]
        refine j_istore (L' := [_, _, _, _, _, _, _]) hc dX10_blame_49 (Nat.le_of_ble_eq_true rfl) rfl ?_
        refine j_aload_n hc dX10_blame_51 rfl ?_
        refine j_aload_n hc dX10_blame_52 rfl ?_
        refine j_get hc dX10_blame_53 fX10_76 zyB rfl ?_
        refine j_aload hc dX10_blame_56 rfl ?_
        refine j_get hc dX10_blame_58 fX10_240 zyP rfl ?_
        refine j_iconst hc dX10_blame_61 ?_
        refine j_callV (d' := d - 1) hc dX10_blame_62 vX10_306 zyL.1 (ev_X0_planOf (ru := ruC S l) (by omega) (by omega) (by omega) hD (zyX.join zyH)) rfl (by omega) (by omega) (by omega) rfl rfl (Nat.le_of_ble_eq_true rfl) (retE fun zv62 zq62 zp62 => ?_)
        obtain ⟨zv6, pl6, cs6, wf6, kf6, bf6, lf6, wl6, zX6, zH6, zF6⟩ := zp62
        subst zv6
        have zR6 := RuOK.fr (zB7.1.2.2.2.2.1.ru zK hl0 hl1) (fun z z0 z1 => zF6 z (fun y => by rcases y with y | y <;> first | omega | (rw [y] at z0; simp at z0)))
        have zB6 := zB7.1.plan hl0 hl1 (zF6.mono fun z zz => isSl_lo (by omega) (by omega) zz) (zX6.join zH6) zR6
        have zP6 := zH6.2.2.2.1
        rw [show srj 0 = 0 by decide] at zP6
        have zrow6 : ∀ q a : Int, 0 ≤ q → q < lSe (bD S l) → 0 ≤ a → a ≤ 40 → kf6 (ceS n q + a) = kqS S l 0 n q a := fun q a q0 q1 a0 a1 => by
          have zin := ceS_in (D := bD S l) (n := n) (s := q) (a := a) q0 q1 hn1 hn a0 a1
          rw [(zP6.2.2.2.2.2.2.1 _ zin.1 zin.2).2.2 rfl]
          unfold kqS kpA kpS
          rw [if_neg (by omega), if_neg (by omega), if_neg (by omega)]
        have zs1 := (zF6 (20, 1) (by simp)).trans zy1
        have zs2 := (zF6 (21, 1) (by simp)).trans zy2
        refine j_iload_n hc dX10_blame_65 rfl ?_
        refine j_iload hc dX10_blame_66 rfl ?_
        refine j_callV (d' := d - 1) hc dX10_blame_68 vX10_274 zB6.1.1.1 (ev_X10_goAlone (S := S) (kq := kqS S l 0 n) (rf := bRw S 0) (m := (bRl S 0).toNat) (N := 280) (by omega) zB6.1.1.1 zB6.1.1.2.2.2.1 zB6.1.1.2.2.2.2.1 zB6.1.1.2.2.2.2.2.2.1 zB6.1.1.2.2.2.2.2.2.2 zB6.2.2.1.1 (by omega) zX6.1 hD hE (by omega) (by omega) zrow6 (kqA zK hl0 hl1 hn1) zk3 zw.1 zw.2 hn1 hn (by omega) (by omega) zP6.1 zP6.2.1 zs1 zs2) rfl (by omega) (by omega) (by omega) rfl rfl (Nat.le_of_ble_eq_true rfl) (retN fun zq68 zp68 => ?_)
        obtain ⟨zx1, zx2, zx3, zx4⟩ := zp68
        have zxB := (zx4 (0, 0) (by simp)).trans zB6.1.1.1
        have zB5 := (zB6.story0 (zx4.mono fun z zz => by rcases zz with rfl | rfl | rfl <;> simp) ⟨zx3, (by obtain ⟨q1, q2, q3, q4, q5, q6, q7, q8, q9⟩ := zB6.2.2.1.2; exact ⟨q1, q2, q3, q4, q5, q6, q7, q8, (zx4 _ (by simp)).trans q9⟩)⟩ (zx4 _ (by simp)) (zx4 _ (by simp)) ⟨_, _, _, _, zx1, zx2⟩)
        refine j_iload hc dX10_blame_71 rfl ?_
        refine j_aload_n hc dX10_blame_73 rfl ?_
        refine j_get hc dX10_blame_74 fX10_76 zxB rfl ?_
        refine j_callV (d' := d - 1) hc dX10_blame_77 vX10_303 zx1 (ev_X7_hungryInAll (by omega) zx1 zx2 (by omega) (by omega)) rfl (by omega) (by omega) (by omega) rfl rfl (Nat.le_of_ble_eq_true rfl) (ret1 ?_)
        rw [huN_sy (bRl S 0).toNat (bRl S 0).toNat (Nat.le_refl _)]
        refine j_isub hc dX10_blame_80 ?_
        exact j_iret hc he dX10_blame_81 rfl (by omega) (by omega) ⟨_, rfl, by unfold aBlame; rw [if_pos ⟨hcs, zw⟩]; rfl, zB5.1, ((zFb.tr zB7.2).tr (zF6.mono fun z zz => isLo_ba (S := S) (l := l) (isSl_lo (by omega) (by omega) zz))).tr zB5.2⟩
      · have zw : ¬ (0 ≤ b ∧ b ≤ 20) := one_neg zc2
        refine j_ldcw (x := -100000) hc dX10_blame_25 kX10_302 (by decide) ?_
        exact j_iret hc he dX10_blame_28 rfl (by omega) (by omega) ⟨_, rfl, by unfold aBlame; rw [if_neg (fun z => zw z.2)], zB8, zFb⟩
  · skip
    refine Ev.mk (by decide +kernel) [_, _, _, _, _, _, _] rfl (Nat.le_of_ble_eq_true rfl) (fun w hc he => ?_)
    refine j_aload_n hc dX10_blame_0 rfl ?_
    refine j_iload_n hc dX10_blame_1 rfl ?_
    refine j_iload_n hc dX10_blame_2 rfl ?_
    refine j_iload_n hc dX10_blame_3 rfl ?_
    refine j_callV (d' := d - 1) hc dX10_blame_4 vX10_247 zb0 (ev_X10_planForAllSeasons_no (by omega) hB hil hir hin hcs) rfl (by omega) (by omega) (by omega) rfl rfl (Nat.le_of_ble_eq_true rfl) (ret1 ?_)
    refine j_astore (L' := [_, _, _, _, _, _, _]) hc dX10_blame_7 (Nat.le_of_ble_eq_true rfl) rfl ?_
    refine j_aload hc dX10_blame_9 rfl ?_
    refine j_ifnull (tgt := 25) hc dX10_blame_11 (by decide) (fun zc1 => ?_) (fun zc1 => ?_)
    · refine j_ldcw (x := -100000) hc dX10_blame_25 kX10_302 (by decide) ?_
      exact j_iret hc he dX10_blame_28 rfl (by omega) (by omega) ⟨_, rfl, by unfold aBlame; rw [if_neg (fun z => hcs z.1)], hB, Fr.rf _ _⟩
    · exact absurd rfl zc1
