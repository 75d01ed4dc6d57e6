/-! ===== the reference reads a land: h, pure part ===== -/
theorem stH_w1 {A : MAs} {b : Int → Int} {n i l x i' w : Int} {X : DrS} (hX : XOK X) (hl : 0 ≤ l) (x12 : ∀ q : Int, 0 ≤ q → q < 4 → A 12 (4 * l + q) = xHv X q) (h0 : 0 ≤ i) (h1 : i ≤ n) (hN : NuM A b n (nuS b n i 0 (xSe X - 1)) 0 (xSe X - 1) l (-1) x i' w) : (w ≠ -1 → (stH b n i X).1 = w) ∧ (w = -1 → (nuS b n i 0 (xSe X - 1)).1 = -1 ∧ x = (nuS b n i 0 (xSe X - 1)).2.2 ∧ i' = (nuS b n i 0 (xSe X - 1)).2.1 ∧ xHv X (nuS b n i 0 (xSe X - 1)).2.2 < 4 ∧ 0 ≤ (nuS b n i 0 (xSe X - 1)).2.2 ∧ (nuS b n i 0 (xSe X - 1)).2.2 ≤ 3 ∧ 0 ≤ (nuS b n i 0 (xSe X - 1)).2.1 ∧ (nuS b n i 0 (xSe X - 1)).2.1 ≤ n) := by
  have hs := hX.1
  have hs4 := hX.2.1
  have zb := nuS_b (b := b) (lo := 0) (hi := xSe X - 1) h0 h1
  by_cases q : (nuS b n i 0 (xSe X - 1)).1 ≠ -1
  · have := hN.2.1 q
    refine ⟨fun _ => ?_, fun z => by omega⟩
    unfold stH
    rw [if_pos q]
    exact this.symm
  · have q2 : (nuS b n i 0 (xSe X - 1)).1 = -1 := by omega
    have zb2 := zb.2.2.2.2 q2
    have zx := x12 (nuS b n i 0 (xSe X - 1)).2.2 (by omega) (by omega)
    have zv := hX.2.2.2.2.2.2.2.2.2.2.2.2.2.2.2 (nuS b n i 0 (xSe X - 1)).2.2 (by omega) (by omega)
    by_cases g : 4 ≤ xHv X (nuS b n i 0 (xSe X - 1)).2.2
    · have := (hN.2.2 q2).1 (Or.inr ⟨by omega, by rw [zx]; omega⟩)
      refine ⟨fun _ => ?_, fun z => by omega⟩
      unfold stH
      rw [if_neg q, if_pos g]
      exact this.symm
    · obtain ⟨y0, y⟩ := (hN.2.2 q2).2 (fun z => by rcases z with z | z; (· omega); rw [zx] at z; omega)
      rcases y with ⟨y1, y2, y3⟩ | ⟨y1, y2⟩
      · exact ⟨fun z => absurd y1 z, fun _ => ⟨q2, y0, y2, by omega, by omega, by omega, by omega, by omega⟩⟩
      · refine ⟨fun _ => ?_, fun z => by omega⟩
        unfold stH
        rw [if_neg q, if_neg g, if_pos (by rw [nuS_dg y2]; omega)]
        show (nuS b n (nuS b n i 0 (xSe X - 1)).2.1 0 20).1 = w
        rw [nuS_dg y2, y1]
theorem stH_w2 {A : MAs} {b : Int → Int} {n i x i' w : Int} {X : DrS} (q1 : (nuS b n i 0 (xSe X - 1)).1 = -1) (g : xHv X (nuS b n i 0 (xSe X - 1)).2.2 < 4) (h0 : 0 ≤ (nuS b n i 0 (xSe X - 1)).2.1) (h1 : (nuS b n i 0 (xSe X - 1)).2.1 ≤ n) (hN : NuM A b n (nuS b n (nuS b n i 0 (xSe X - 1)).2.1 0 20) 0 20 (-1) (-1) x i' w) : (w ≠ -1 → (stH b n i X).1 = w) ∧ (w = -1 → (nuS b n (nuS b n i 0 (xSe X - 1)).2.1 0 20).1 = -1 ∧ x = (nuS b n (nuS b n i 0 (xSe X - 1)).2.1 0 20).2.2 ∧ i' = (nuS b n (nuS b n i 0 (xSe X - 1)).2.1 0 20).2.1 ∧ 0 ≤ (nuS b n (nuS b n i 0 (xSe X - 1)).2.1 0 20).2.1 ∧ (nuS b n (nuS b n i 0 (xSe X - 1)).2.1 0 20).2.1 ≤ n) := by
  have zb := nuS_b (b := b) (lo := 0) (hi := 20) h0 h1
  by_cases q : (nuS b n (nuS b n i 0 (xSe X - 1)).2.1 0 20).1 ≠ -1
  · have := hN.2.1 q
    refine ⟨fun _ => ?_, fun z => by omega⟩
    unfold stH
    rw [if_neg (by omega), if_neg (by omega), if_pos q]
    exact this.symm
  · have q2 : (nuS b n (nuS b n i 0 (xSe X - 1)).2.1 0 20).1 = -1 := by omega
    have zb2 := zb.2.2.2.2 q2
    obtain ⟨y0, y⟩ := (hN.2.2 q2).2 (fun z => by rcases z with z | z; (· omega); exact z.1 rfl)
    rcases y with ⟨y1, y2, y3⟩ | ⟨y1, y2⟩
    · exact ⟨fun z => absurd y1 z, fun _ => ⟨q2, y0, y2, by omega, by omega⟩⟩
    · refine ⟨fun _ => ?_, fun z => by omega⟩
      unfold stH
      rw [if_neg (by omega), if_neg (by omega), if_neg q, if_pos (by rw [nuS_dg y2]; omega)]
      show (nuS b n (nuS b n (nuS b n i 0 (xSe X - 1)).2.1 0 20).2.1 1 (min 9 (12 - xWs X (nuS b n i 0 (xSe X - 1)).2.2))).1 = w
      rw [nuS_dg y2, y1]
theorem stH_w3 {A : MAs} {b : Int → Int} {n i x i' w : Int} {X : DrS} (q1 : (nuS b n i 0 (xSe X - 1)).1 = -1) (g : xHv X (nuS b n i 0 (xSe X - 1)).2.2 < 4) (q2 : (nuS b n (nuS b n i 0 (xSe X - 1)).2.1 0 20).1 = -1) (h0 : 0 ≤ (nuS b n (nuS b n i 0 (xSe X - 1)).2.1 0 20).2.1) (h1 : (nuS b n (nuS b n i 0 (xSe X - 1)).2.1 0 20).2.1 ≤ n) (hN : NuM A b n (nuS b n (nuS b n (nuS b n i 0 (xSe X - 1)).2.1 0 20).2.1 1 (min 9 (12 - xWs X (nuS b n i 0 (xSe X - 1)).2.2))) 1 (min 9 (12 - xWs X (nuS b n i 0 (xSe X - 1)).2.2)) (-1) (-1) x i' w) : (w ≠ -1 → ((stH b n i X).1 = w ∧ (stH b n i X).1 ≠ -1) ∨ ((stH b n i X).1 = -1 ∧ w = (stH b n i X).2.1 ∧ dgS (hrS b n (stH b n i X).2.1))) ∧ (w = -1 → (nuS b n (nuS b n (nuS b n i 0 (xSe X - 1)).2.1 0 20).2.1 1 (min 9 (12 - xWs X (nuS b n i 0 (xSe X - 1)).2.2))).1 = -1 ∧ x = (nuS b n (nuS b n (nuS b n i 0 (xSe X - 1)).2.1 0 20).2.1 1 (min 9 (12 - xWs X (nuS b n i 0 (xSe X - 1)).2.2))).2.2 ∧ i' = (nuS b n (nuS b n (nuS b n i 0 (xSe X - 1)).2.1 0 20).2.1 1 (min 9 (12 - xWs X (nuS b n i 0 (xSe X - 1)).2.2))).2.1 ∧ 0 ≤ (nuS b n (nuS b n (nuS b n i 0 (xSe X - 1)).2.1 0 20).2.1 1 (min 9 (12 - xWs X (nuS b n i 0 (xSe X - 1)).2.2))).2.1 ∧ (nuS b n (nuS b n (nuS b n i 0 (xSe X - 1)).2.1 0 20).2.1 1 (min 9 (12 - xWs X (nuS b n i 0 (xSe X - 1)).2.2))).2.1 ≤ n ∧ stH b n i X = (-1, (nuS b n (nuS b n (nuS b n i 0 (xSe X - 1)).2.1 0 20).2.1 1 (min 9 (12 - xWs X (nuS b n i 0 (xSe X - 1)).2.2))).2.1, xAdd X (nuS b n i 0 (xSe X - 1)).2.2 (nuS b n (nuS b n i 0 (xSe X - 1)).2.1 0 20).2.2 (nuS b n (nuS b n (nuS b n i 0 (xSe X - 1)).2.1 0 20).2.1 1 (min 9 (12 - xWs X (nuS b n i 0 (xSe X - 1)).2.2))).2.2)) := by
  have zb := nuS_b (b := b) (lo := 1) (hi := min 9 (12 - xWs X (nuS b n i 0 (xSe X - 1)).2.2)) h0 h1
  by_cases q : (nuS b n (nuS b n (nuS b n i 0 (xSe X - 1)).2.1 0 20).2.1 1 (min 9 (12 - xWs X (nuS b n i 0 (xSe X - 1)).2.2))).1 ≠ -1
  · have := hN.2.1 q
    have e : stH b n i X = ((nuS b n (nuS b n (nuS b n i 0 (xSe X - 1)).2.1 0 20).2.1 1 (min 9 (12 - xWs X (nuS b n i 0 (xSe X - 1)).2.2))).1, 0, X) := by
      unfold stH
      rw [if_neg (by omega), if_neg (by omega), if_neg (by omega), if_pos q]
    rw [e]
    exact ⟨fun _ => Or.inl ⟨this.symm, q⟩, fun z => by omega⟩
  · have q3 : (nuS b n (nuS b n (nuS b n i 0 (xSe X - 1)).2.1 0 20).2.1 1 (min 9 (12 - xWs X (nuS b n i 0 (xSe X - 1)).2.2))).1 = -1 := by omega
    have zb2 := zb.2.2.2.2 q3
    have e : stH b n i X = (-1, (nuS b n (nuS b n (nuS b n i 0 (xSe X - 1)).2.1 0 20).2.1 1 (min 9 (12 - xWs X (nuS b n i 0 (xSe X - 1)).2.2))).2.1, xAdd X (nuS b n i 0 (xSe X - 1)).2.2 (nuS b n (nuS b n i 0 (xSe X - 1)).2.1 0 20).2.2 (nuS b n (nuS b n (nuS b n i 0 (xSe X - 1)).2.1 0 20).2.1 1 (min 9 (12 - xWs X (nuS b n i 0 (xSe X - 1)).2.2))).2.2) := by
      unfold stH
      rw [if_neg (by omega), if_neg (by omega), if_neg (by omega), if_neg q]
    rw [e]
    obtain ⟨y0, y⟩ := (hN.2.2 q3).2 (fun z => by rcases z with z | z; (· omega); exact z.1 rfl)
    rcases y with ⟨y1, y2, y3⟩ | ⟨y1, y2⟩
    · exact ⟨fun z => absurd y1 z, fun _ => ⟨q3, y0, y2, by omega, by omega, rfl⟩⟩
    · exact ⟨fun _ => Or.inr ⟨rfl, y1, y2⟩, fun z => by omega⟩
theorem DrM.add {A : MAs} {l q sk wt mk : Int} {X : DrS} (hX : XOK X) (hD : DrM A l X) (hq0 : 0 ≤ q) (hq1 : q ≤ 3) (hmk : xHv X q = mk) (hm1 : mk ≤ 3) : DrM (fuA (fuA (fuA A 10 (fu (A 10) (4 * (4 * l + q) + mk) sk)) 11 (fu (A 11) (4 * (4 * l + q) + mk) wt)) 12 (fu (A 12) (4 * l + q) (mk + 1))) l (xAdd X q sk wt) := by
  obtain ⟨x6, x8, x9, x13, x14, x15, x12, xpa⟩ := hD
  have zv := fun p p0 p1 => hX.2.2.2.2.2.2.2.2.2.2.2.2.2.2.2 p p0 p1
  have zq := zv q hq0 (by omega)
  refine ⟨x6, x8, x9, x13, x14, x15, fun p p0 p1 => ?_, xpa⟩
  show fu (A 12) (4 * l + q) (mk + 1) (4 * l + p) = fu (xHv X) q (xHv X q + 1) p ∧ ∀ i : Int, 0 ≤ i → i < fu (xHv X) q (xHv X q + 1) p → fu (A 10) (4 * (4 * l + q) + mk) sk (4 * (4 * l + p) + i) = fu (xSk X) (q * 4 + xHv X q) sk (p * 4 + i) ∧ fu (A 11) (4 * (4 * l + q) + mk) wt (4 * (4 * l + p) + i) = fu (xWt X) (q * 4 + xHv X q) wt (p * 4 + i)
  rw [hmk]
  by_cases e : p = q
  · subst e
    rw [fu_same, fu_same]
    refine ⟨rfl, fun i i0 i1 => ?_⟩
    by_cases e2 : i = mk
    · rw [e2, fu_same, fu_same, fu_same, fu_same]; exact ⟨rfl, rfl⟩
    · rw [fu_ne (by omega), fu_ne (by omega), fu_ne (by omega), fu_ne (by omega)]
      exact (x12 p p0 p1).2 i i0 (by omega)
  · have zp := zv p p0 p1
    rw [fu_ne (by omega), fu_ne e]
    refine ⟨(x12 p p0 p1).1, fun i i0 i1 => ?_⟩
    rw [fu_ne (by omega), fu_ne (by omega), fu_ne (by omega), fu_ne (by omega)]
    exact (x12 p p0 p1).2 i i0 i1
