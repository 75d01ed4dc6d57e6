/-! ===== the reference: two towns ===== -/
def rcS (D D2 : LaS) (kq kq2 : Int → Int → Int) (rf rf2 : Int → Int) (ro b b2 : Int) (j : Nat) : Int × Int × Int := caS D D2 ro ((ltN D kq rf b j + rf j) - (kq ((j : Int) % lSe D) (ltN D kq rf b j + rf j))) ((ltN D2 kq2 rf2 b2 j + rf2 j) - (kq2 ((j : Int) % lSe D2) (ltN D2 kq2 rf2 b2 j + rf2 j)))
theorem tyN_cell {D D2 : LaS} (hD : LOK D) (hse : lSe D = lSe D2) {sr : Int} {kq kq2 : Int → Int → Int} {rf rf2 f0 : Int → Int} {ro b b2 : Int} : ∀ (m j : Nat), j < m → j < 40 → m ≤ 40 → ∀ x : Int, 0 ≤ x → x < 7 →
    (tyN D D2 sr sr kq kq2 rf rf2 ro f0 b b2 m).1 (7 * j + x) = wrS (fun _ => 0) (7 * j) (ltN D kq rf b j + rf j) (kq ((j : Int) % lSe D) (ltN D kq rf b j + rf j)) (eaS D sr (rcS D D2 kq kq2 rf rf2 ro b b2 j).2.1) (poS D sr (rcS D D2 kq kq2 rf rf2 ro b b2 j).2.1) (lNe D - eaS D sr (rcS D D2 kq kq2 rf rf2 ro b b2 j).2.1) 0 (rcS D D2 kq kq2 rf rf2 ro b b2 j).1 (7 * j + x) ∧
    (tyN D D2 sr sr kq kq2 rf rf2 ro f0 b b2 m).1 (7 * (40 + j) + x) = wrS (fun _ => 0) (7 * (40 + j)) (ltN D2 kq2 rf2 b2 j + rf2 j) (kq2 ((j : Int) % lSe D2) (ltN D2 kq2 rf2 b2 j + rf2 j)) (eaS D2 sr (rcS D D2 kq kq2 rf rf2 ro b b2 j).2.2) (poS D2 sr (rcS D D2 kq kq2 rf rf2 ro b b2 j).2.2) (lNe D2 - eaS D2 sr (rcS D D2 kq kq2 rf rf2 ro b b2 j).2.2) 0 (-(rcS D D2 kq kq2 rf rf2 ro b b2 j).1) (7 * (40 + j) + x)
  | 0, j, h, _, _, _, _, _ => by omega
  | m + 1, j, h, hj, hm, x, x0, x1 => by
    simp only [tyN, ty1]
    by_cases e : j = m
    · subst e
      rw [tyN_lt hD hse j]
      dsimp only
      rw [show plS 0 j = 7 * (j : Int) by unfold plS; omega, show plS 1 j = 7 * (40 + (j : Int)) by unfold plS; omega]
      rw [show kq2 ((j : Int) % lSe D) = kq2 ((j : Int) % lSe D2) by rw [hse]]
      refine ⟨?_, ?_⟩
      · rw [wrS_lo (p := 7 * (40 + (j : Int))) (by omega)]
        exact wrS_at (by omega) (by omega)
      · exact wrS_at (by omega) (by omega)
    · obtain ⟨i1, i2⟩ := tyN_cell hD hse (sr := sr) (kq := kq) (kq2 := kq2) (rf := rf) (rf2 := rf2) (f0 := f0) (ro := ro) (b := b) (b2 := b2) m j (by omega) hj (by omega) x x0 x1
      refine ⟨?_, ?_⟩
      · rw [wrS_lo (p := plS 1 m) (by unfold plS; omega), wrS_lo (p := plS 0 m) (by unfold plS; omega)]
        exact i1
      · rw [wrS_lo (p := plS 1 m) (by unfold plS; omega), wrS_lo (p := plS 0 m) (by unfold plS; omega)]
        exact i2
def FiA (C f : Int → Int) (j : Nat) : Prop := ∀ x : Int, 0 ≤ x → x < 7 → f (7 * j + x) = C (7 * j + x) ∧ f (7 * (40 + j) + x) = C (7 * (40 + j) + x)
theorem fi_of {D D2 : LaS} (hD : LOK D) (hse : lSe D = lSe D2) {sr : Int} (h3 : sr ≠ 3) {kq kq2 : Int → Int → Int} {rf rf2 f0 f f' : Int → Int} {ro b b2 : Int} {m j : Nat} (hj : j < m) (hm : m ≤ 40) (h1 : PhA D kq rf b 0 f j) (h2 : PhA D2 kq2 rf2 b2 1 f j) (hc : CrF f f' D D2 (7 * j) (7 * (40 + j)) (rcS D D2 kq kq2 rf rf2 ro b b2 j)) : FiA (tyN D D2 sr sr kq kq2 rf rf2 ro f0 b b2 m).1 f' j := by
  intro x x0 x1
  obtain ⟨q1, q2⟩ := tyN_cell hD hse (sr := sr) (kq := kq) (kq2 := kq2) (rf := rf) (rf2 := rf2) (f0 := f0) (ro := ro) (b := b) (b2 := b2) m j hj (by omega) hm x x0 x1
  rw [q1, q2]
  obtain ⟨⟨c2, c3, c4, c6⟩, ⟨e2, e3, e4, e6⟩, cz⟩ := hc
  obtain ⟨p0, p1, p5, p6⟩ := h1
  obtain ⟨r0, r1, r5, r6⟩ := h2
  rw [show 7 * (40 * 0 + (j : Int)) = 7 * (j : Int) by omega] at p0 p1 p5 p6
  rw [show 7 * (40 * 1 + (j : Int)) = 7 * (40 + (j : Int)) by omega] at r0 r1 r5 r6
  rcases (by omega : x = 0 ∨ x = 1 ∨ x = 2 ∨ x = 3 ∨ x = 4 ∨ x = 5 ∨ x = 6) with rfl | rfl | rfl | rfl | rfl | rfl | rfl
  · rw [Int.add_zero, Int.add_zero, wrS_0, wrS_0]
    exact ⟨(cz _ (by omega) (by omega) (by omega) (by omega) (by omega) (by omega) (by omega) (by omega)).trans p0, (cz _ (by omega) (by omega) (by omega) (by omega) (by omega) (by omega) (by omega) (by omega)).trans r0⟩
  · rw [wrS_1, wrS_1]
    exact ⟨(cz _ (by omega) (by omega) (by omega) (by omega) (by omega) (by omega) (by omega) (by omega)).trans p1, (cz _ (by omega) (by omega) (by omega) (by omega) (by omega) (by omega) (by omega) (by omega)).trans r1⟩
  · rw [wrS_2, wrS_2]
    exact ⟨c2.trans (eaS_n h3).1, e2.trans (eaS_n h3).1⟩
  · rw [wrS_3, wrS_3]
    exact ⟨c3.trans (by unfold poS; rw [if_neg h3]), e3.trans (by unfold poS; rw [if_neg h3])⟩
  · rw [wrS_4, wrS_4]
    exact ⟨c4.trans (eaS_n h3).2, e4.trans (eaS_n h3).2⟩
  · rw [wrS_5, wrS_5]
    exact ⟨(cz _ (by omega) (by omega) (by omega) (by omega) (by omega) (by omega) (by omega) (by omega)).trans p5, (cz _ (by omega) (by omega) (by omega) (by omega) (by omega) (by omega) (by omega) (by omega)).trans r5⟩
  · rw [wrS_6, wrS_6]
    exact ⟨c6, e6⟩
set_option maxRecDepth 100000 in
set_option maxHeartbeats 4000000 in
theorem lp_X11_towns2 {k : WC} {d : Nat} {w : MC} {h0 : AH} {s : Int → Int} {A : MAs} {l : Int} {D : LaS} {E : LaY} {l2 : Int} {D2 : LaS} {E2 : LaY} {sr n b b2 ro : Int} {kq kq2 : Int → Int → Int} {rf rf2 fc : Int → Int} {m : Nat} (hd : 8 ≤ d) (hM : MlD A l D E) (hD : LOK D) (hE : YOK E) (hM2 : MlD A l2 D2 E2) (hD2 : LOK D2) (hE2 : YOK E2) (hse : lSe D = lSe D2) (h3 : sr ≠ 3) (h45 : s 45 = m) (hm40 : m ≤ 40) (hr0 : 0 ≤ ro) (hr1 : ro ≤ 99) (hkq : kqOK D kq) (hkq2 : kqOK D2 kq2) (hb0 : 0 ≤ b) (hb1 : b ≤ 20) (hb20 : 0 ≤ b2) (hb21 : b2 ≤ 20) (hrf : ∀ i : Int, 0 ≤ i → i < 40 → 0 ≤ rf i ∧ rf i ≤ 20) (hrf2 : ∀ i : Int, 0 ≤ i → i < 40 → 0 ≤ rf2 i ∧ rf2 i ≤ 20) (hc : Cx w k d 0 0 mdX11_towns) (he : Ends w 0 0 (pe fun v h' => v = vI m ∧ ∃ f : Int → Int, h' (243, 0) = some (oI 560 f) ∧ (∀ j : Nat, j < m → FiA (tyN D D2 sr sr kq kq2 rf rf2 ro fc b b2 m).1 f j) ∧ MdS h' s A ∧ Fr (fun z => z = (243, 0)) h0 h')) : ∀ (zm : Nat) (i : Nat) (z9 z10 z11 z12 : Option AV) (f : Int → Int) (h : AH), m - i = zm → i ≤ m → (∀ j : Nat, j < i → FiA (tyN D D2 sr sr kq kq2 rf rf2 ro fc b b2 m).1 f j) → (∀ j : Nat, i ≤ j → j < m → PhA D kq rf b 0 f j ∧ PhA D2 kq2 rf2 b2 1 f j) → MdS h s A → h (243, 0) = some (oI 560 f) → Fr (fun z => z = (243, 0)) h0 h → J w 0 0 241 [some (vR (70, 0)), some (vI l), some (vI l2), some (vI sr), some (vI n), some (vI b), some (vI b2), some (vI ro), some (vI i), z9, z10, z11, z12] [] h := by
  intro zm
  induction zm using Nat.strongRecOn with
  | _ zm ih =>
    intro i z9 z10 z11 z12 f h hm him hfi hph hS z43 hF
    refine j_iload hc dX11_towns_241 rfl ?_
    refine j_aload_n hc dX11_towns_243 rfl ?_
    refine j_get hc dX11_towns_244 fX11_386 hS.1 rfl ?_
    rw [h45]
    refine j_icmp_ge (tgt := 277) hc dX11_towns_247 (by decide) ⟨by omega, by omega⟩ ⟨by omega, by omega⟩ (fun zc1 => ?_) (fun zc1 => ?_)
    · refine j_aload_n hc dX11_towns_277 rfl ?_
      refine j_get hc dX11_towns_278 fX11_386 hS.1 rfl ?_
      rw [h45]
      exact j_iret hc he dX11_towns_281 rfl (by omega) (by omega) ⟨_, rfl, rfl, f, z43, fun j hj => hfi j (by omega), hS, hF⟩
    · obtain ⟨zph1, zph2⟩ := hph i (by omega) (by omega)
      have zk1 := ltN_b hD hkq hb0 hb1 hrf i (by omega)
      have zk2 := ltN_b hD2 hkq2 hb20 hb21 hrf2 i (by omega)
      have zf1 := hrf i (by omega) (by omega)
      have zf2 := hrf2 i (by omega) (by omega)
      have zd1 := hD.1
      have zd2 := hD2.1
      have zq1 := hkq ((i : Int) % lSe D) (ltN D kq rf b i + rf i) (Int.emod_nonneg _ (by omega)) (Int.emod_lt_of_pos _ (by omega)) (by omega) (by omega)
      have zq2 := hkq2 ((i : Int) % lSe D2) (ltN D2 kq2 rf2 b2 i + rf2 i) (Int.emod_nonneg _ (by omega)) (Int.emod_lt_of_pos _ (by omega)) (by omega) (by omega)
      obtain ⟨zp0, zp1, -, zp6⟩ := id zph1
      obtain ⟨zr0, zr1, -, zr6⟩ := id zph2
      rw [show 7 * (40 * 0 + (i : Int)) = 7 * (i : Int) by omega] at zp0 zp1 zp6
      rw [show 7 * (40 * 1 + (i : Int)) = 7 * (40 + (i : Int)) by omega] at zr0 zr1 zr6
      refine j_aload_n hc dX11_towns_250 rfl ?_
      refine j_iload_n hc dX11_towns_251 rfl ?_
      refine j_iload_n hc dX11_towns_252 rfl ?_
      refine j_bipush hc dX11_towns_253 (by decide) ?_
      refine j_iload hc dX11_towns_255 rfl ?_
      refine j_imul hc dX11_towns_257 ?_
      refine j_bipush hc dX11_towns_258 (by decide) ?_
      refine j_bipush hc dX11_towns_260 (by decide) ?_
      refine j_iload hc dX11_towns_262 rfl ?_
      refine j_iadd hc dX11_towns_264 ?_
      refine j_imul hc dX11_towns_265 ?_
      refine j_iload hc dX11_towns_266 rfl ?_
      refine j_callV (d' := d - 1) hc dX11_towns_268 vX11_393 hS.1 (ev_X11_carry (pa := 7 * (i : Int)) (pb := 7 * (40 + (i : Int))) (by omega) hM hD hE hM2 hD2 hE2 (by omega) (by omega) (by omega) hr0 hr1 zp0 zp1 zr0 zr1 zp6 zr6 (by omega) (by omega) (by omega) (by omega) hS z43) rfl (by omega) (by omega) (by omega) rfl rfl (Nat.le_of_ble_eq_true rfl) (retN fun zq268 zp268 => ?_)
      obtain ⟨f1, zX1, zC1, zS1, zF1⟩ := zp268
      refine j_iinc (L' := [_, _, _, _, _, _, _, _, _, _, _, _, _]) hc dX11_towns_271 rfl (Nat.le_of_ble_eq_true rfl) rfl ?_
      refine j_goto (tgt := 241) hc dX11_towns_274 (by decide) ?_
      exact ih _ (by omega) (i + 1) _ _ _ _ _ _ rfl (by omega) (fun j hj => by
        by_cases e : j = i
        · subst e
          exact fi_of hD hse h3 (by omega) hm40 zph1 zph2 zC1
        · intro x x0 x1
          have zz := hfi j (by omega) x x0 x1
          rw [zC1.2.2 (7 * (j : Int) + x) (by omega) (by omega) (by omega) (by omega) (by omega) (by omega) (by omega) (by omega), zC1.2.2 (7 * (40 + (j : Int)) + x) (by omega) (by omega) (by omega) (by omega) (by omega) (by omega) (by omega) (by omega)]
          exact zz) (fun j hj0 hj1 => by
        obtain ⟨y1, y2⟩ := hph j (by omega) hj1
        exact ⟨y1.same fun z z0 z1 => zC1.2.2 z (by omega) (by omega) (by omega) (by omega) (by omega) (by omega) (by omega) (by omega), y2.same fun z z0 z1 => zC1.2.2 z (by omega) (by omega) (by omega) (by omega) (by omega) (by omega) (by omega) (by omega)⟩) zS1 zX1 (hF.tr zF1)
