/-! ===== reading a tape: blanks, numbers, lands ===== -/
def skN (b : Int → Int) (n : Int) : Nat → Int → Int
  | 0, i => i
  | m + 1, i => if i < n ∧ b i = 32 then skN b n m (i + 1) else i
def skS (b : Int → Int) (n i : Int) : Int := skN b n (n - i).toNat i
def hrS (b : Int → Int) (n i : Int) : Int := if 0 ≤ i ∧ i < n then b i else 0
abbrev dgS (c : Int) : Prop := 48 ≤ c ∧ c ≤ 57
theorem skN_b {b : Int → Int} {n : Int} : ∀ (m : Nat) (i : Int), i ≤ skN b n m i ∧ (i ≤ n → skN b n m i ≤ n) ∧ (n - i ≤ m → ¬ (skN b n m i < n ∧ b (skN b n m i) = 32))
  | 0, i => ⟨Int.le_refl _, fun h => h, fun h => by simp only [skN]; omega⟩
  | m + 1, i => by
    simp only [skN]
    split
    · obtain ⟨h1, h2, h3⟩ := skN_b (b := b) (n := n) m (i + 1)
      exact ⟨by omega, fun h => h2 (by omega), fun h => h3 (by omega)⟩
    · rename_i q
      exact ⟨Int.le_refl _, fun h => h, fun _ => q⟩
theorem skN_stop {b : Int → Int} {n : Int} {i : Int} (h : ¬ (i < n ∧ b i = 32)) : ∀ m : Nat, skN b n m i = i
  | 0 => rfl
  | m + 1 => by simp only [skN]; rw [if_neg h]
theorem skS_b (b : Int → Int) (n i : Int) : i ≤ skS b n i ∧ (i ≤ n → skS b n i ≤ n) ∧ ¬ (skS b n i < n ∧ b (skS b n i) = 32) := by
  obtain ⟨h1, h2, h3⟩ := skN_b (b := b) (n := n) (n - i).toNat i
  exact ⟨h1, h2, h3 (by omega)⟩
theorem skS_idem (b : Int → Int) (n i : Int) : skS b n (skS b n i) = skS b n i := skN_stop (skS_b b n i).2.2 _
theorem skS_stop {b : Int → Int} {n i : Int} (h : ¬ (i < n ∧ b i = 32)) : skS b n i = i := skN_stop h _
theorem skS_step {b : Int → Int} {n i : Int} (h : i < n) (h2 : b i = 32) : skS b n (i + 1) = skS b n i := by
  unfold skS
  rw [show (n - i).toNat = (n - (i + 1)).toNat + 1 by omega]
  simp only [skN]
  rw [if_pos ⟨h, h2⟩]
theorem hrS_b {b : Int → Int} {n : Int} (hb : ∀ j : Int, 0 ≤ j → j < n → 1 ≤ b j ∧ b j ≤ 255) (i : Int) : 0 ≤ hrS b n i ∧ hrS b n i ≤ 255 := by
  unfold hrS
  split
  · rename_i q
    have := hb i q.1 q.2
    omega
  · omega
theorem hrS_lt {b : Int → Int} {n i : Int} (h0 : 0 ≤ i) (h : hrS b n i ≠ 0) : i < n := by
  unfold hrS at h
  split at h
  · omega
  · omega
/-- a number was read to q: fault (or -1), place, value -/
def nuR (lo hi q v : Int) : Int × Int × Int := if lo ≤ v ∧ v ≤ hi then (-1, q, v) else (q - 1, q, v)
def nuS (b : Int → Int) (n i lo hi : Int) : Int × Int × Int :=
  if hrS b n i ≠ 32 then (i, i, 0)
  else if ¬ dgS (hrS b n (skS b n i)) then (skS b n i, skS b n i, 0)
  else if dgS (hrS b n (skS b n i + 1)) then nuR lo hi (skS b n i + 1 + 1) ((hrS b n (skS b n i) - 48) * 10 + hrS b n (skS b n i + 1) - 48)
  else nuR lo hi (skS b n i + 1) (hrS b n (skS b n i) - 48)
theorem nuS_b {b : Int → Int} {n i lo hi : Int} (h0 : 0 ≤ i) (h1 : i ≤ n) : i ≤ (nuS b n i lo hi).2.1 ∧ (nuS b n i lo hi).2.1 ≤ n ∧ -1 ≤ (nuS b n i lo hi).1 ∧ (nuS b n i lo hi).1 ≤ n ∧ ((nuS b n i lo hi).1 = -1 → i < (nuS b n i lo hi).2.1 ∧ lo ≤ (nuS b n i lo hi).2.2 ∧ (nuS b n i lo hi).2.2 ≤ hi ∧ 0 ≤ (nuS b n i lo hi).2.2 ∧ (nuS b n i lo hi).2.2 ≤ 99) := by
  obtain ⟨s1, s2, s3⟩ := skS_b b n i
  have s2 := s2 h1
  unfold nuS
  split
  · simp only; omega
  · split
    · simp only; omega
    · rename_i q0 q1
      have l1 : skS b n i < n := hrS_lt (b := b) (by omega) (by omega)
      split
      · rename_i q2
        have l2 : skS b n i + 1 < n := hrS_lt (b := b) (by omega) (by omega)
        unfold nuR
        split <;> (simp only; omega)
      · unfold nuR
        split <;> (simp only; omega)
/-- what is drafted: seasons, eaters, cost, mice, room, w's; eaters by pay, harvests, weight sums, sacks, weights -/
abbrev DrS : Type := Int × Int × Int × Int × Int × Int × (Int → Int) × (Int → Int) × (Int → Int) × (Int → Int) × (Int → Int)
def xSe (X : DrS) : Int := X.1
def xEa (X : DrS) : Int := X.2.1
def xCo (X : DrS) : Int := X.2.2.1
def xMi (X : DrS) : Int := X.2.2.2.1
def xRo (X : DrS) : Int := X.2.2.2.2.1
def xSw (X : DrS) : Int := X.2.2.2.2.2.1
def xCn (X : DrS) : Int → Int := X.2.2.2.2.2.2.1
def xHv (X : DrS) : Int → Int := X.2.2.2.2.2.2.2.1
def xWs (X : DrS) : Int → Int := X.2.2.2.2.2.2.2.2.1
def xSk (X : DrS) : Int → Int := X.2.2.2.2.2.2.2.2.2.1
def xWt (X : DrS) : Int → Int := X.2.2.2.2.2.2.2.2.2.2
abbrev RdS : Type := Int × Int × DrS
def stW (b : Int → Int) (n i : Int) (X : DrS) : RdS :=
  if 20 < xSw X + 1 then (i - 1, i, X)
  else if (nuS b n i 1 99).1 ≠ -1 then ((nuS b n i 1 99).1, 0, X)
  else if (nuS b n (nuS b n i 1 99).2.1 1 9).1 ≠ -1 then ((nuS b n (nuS b n i 1 99).2.1 1 9).1, 0, X)
  else (-1, (nuS b n (nuS b n i 1 99).2.1 1 9).2.1, (xSe X, xEa X + (nuS b n (nuS b n i 1 99).2.1 1 9).2.2, xCo X, xMi X, xRo X, xSw X + 1, fu (xCn X) (nuS b n i 1 99).2.2 (xCn X (nuS b n i 1 99).2.2 + (nuS b n (nuS b n i 1 99).2.1 1 9).2.2), xHv X, xWs X, xSk X, xWt X))
/-- a harvest of h sacks with weight w in season s -/
def xAdd (X : DrS) (s h w : Int) : DrS := (xSe X, xEa X, xCo X, xMi X, xRo X, xSw X, xCn X, fu (xHv X) s (xHv X s + 1), fu (xWs X) s (xWs X s + w), fu (xSk X) (s * 4 + xHv X s) h, fu (xWt X) (s * 4 + xHv X s) w)
def stH (b : Int → Int) (n i : Int) (X : DrS) : RdS :=
  if (nuS b n i 0 (xSe X - 1)).1 ≠ -1 then ((nuS b n i 0 (xSe X - 1)).1, 0, X)
  else if 4 ≤ xHv X (nuS b n i 0 (xSe X - 1)).2.2 then ((nuS b n i 0 (xSe X - 1)).2.1 - 1, 0, X)
  else if (nuS b n (nuS b n i 0 (xSe X - 1)).2.1 0 20).1 ≠ -1 then ((nuS b n (nuS b n i 0 (xSe X - 1)).2.1 0 20).1, 0, X)
  else if (nuS b n (nuS b n (nuS b n i 0 (xSe X - 1)).2.1 0 20).2.1 1 (min 9 (12 - xWs X (nuS b n i 0 (xSe X - 1)).2.2))).1 ≠ -1 then ((nuS b n (nuS b n (nuS b n i 0 (xSe X - 1)).2.1 0 20).2.1 1 (min 9 (12 - xWs X (nuS b n i 0 (xSe X - 1)).2.2))).1, 0, X)
  else (-1, (nuS b n (nuS b n (nuS b n i 0 (xSe X - 1)).2.1 0 20).2.1 1 (min 9 (12 - xWs X (nuS b n i 0 (xSe X - 1)).2.2))).2.1, xAdd X (nuS b n i 0 (xSe X - 1)).2.2 (nuS b n (nuS b n i 0 (xSe X - 1)).2.1 0 20).2.2 (nuS b n (nuS b n (nuS b n i 0 (xSe X - 1)).2.1 0 20).2.1 1 (min 9 (12 - xWs X (nuS b n i 0 (xSe X - 1)).2.2))).2.2)
def stC (b : Int → Int) (n i : Int) (X : DrS) : RdS :=
  if (nuS b n i 0 30).1 ≠ -1 then ((nuS b n i 0 30).1, 0, X)
  else (-1, (nuS b n i 0 30).2.1, (xSe X, xEa X, (nuS b n i 0 30).2.2, xMi X, xRo X, xSw X, xCn X, xHv X, xWs X, xSk X, xWt X))
def stM (b : Int → Int) (n i : Int) (X : DrS) : RdS :=
  if (nuS b n i 0 20).1 ≠ -1 then ((nuS b n i 0 20).1, 0, X)
  else if (nuS b n i 0 20).2.2 = 1 then ((nuS b n i 0 20).2.1 - 1, 0, X)
  else (-1, (nuS b n i 0 20).2.1, (xSe X, xEa X, xCo X, (nuS b n i 0 20).2.2, xRo X, xSw X, xCn X, xHv X, xWs X, xSk X, xWt X))
def stR (b : Int → Int) (n i : Int) (X : DrS) : RdS :=
  if (nuS b n i 0 20).1 ≠ -1 then ((nuS b n i 0 20).1, 0, X)
  else (-1, (nuS b n i 0 20).2.1, (xSe X, xEa X, xCo X, xMi X, (nuS b n i 0 20).2.2, xSw X, xCn X, xHv X, xWs X, xSk X, xWt X))
def stS (b : Int → Int) (n i : Int) (X : DrS) : RdS :=
  if hrS b n (skS b n i) = 119 then stW b n (skS b n i + 1) X
  else if hrS b n (skS b n i) = 104 then stH b n (skS b n i + 1) X
  else if hrS b n (skS b n i) = 99 then stC b n (skS b n i + 1) X
  else if hrS b n (skS b n i) = 109 then stM b n (skS b n i + 1) X
  else if hrS b n (skS b n i) = 114 then stR b n (skS b n i + 1) X
  else (skS b n i, 0, X)
/-- statements, each behind a ; -/
def lsN (b : Int → Int) (n : Int) : Nat → Int → DrS → RdS
  | 0, i, X => (-1, i, X)
  | m + 1, i, X => if hrS b n (skS b n i) = 59 then (if (stS b n (skS b n i + 1) X).1 = -1 then lsN b n m (stS b n (skS b n i + 1) X).2.1 (stS b n (skS b n i + 1) X).2.2 else ((stS b n (skS b n i + 1) X).1, 0, X)) else (-1, skS b n i, X)
/-- a new draft -/
def x0S (cn hv ws sk wt : Int → Int) : DrS := (0, 0, 0, 0, 20, 0, cn, hv, ws, sk, wt)
def xYe (X : DrS) (v : Int) : DrS := (v, xEa X, xCo X, xMi X, xRo X, xSw X, xCn X, xHv X, xWs X, xSk X, xWt X)
/-- the whole land: its fault or -1, and the draft -/
def laR (b : Int → Int) (n : Int) (X : DrS) : Int × DrS :=
  if hrS b n (skS b n 0) ≠ 121 then (skS b n 0, X)
  else if (nuS b n (skS b n 0 + 1) 1 4).1 ≠ -1 then ((nuS b n (skS b n 0 + 1) 1 4).1, X)
  else if (lsN b n 240 (nuS b n (skS b n 0 + 1) 1 4).2.1 (xYe X (nuS b n (skS b n 0 + 1) 1 4).2.2)).1 ≠ -1 then ((lsN b n 240 (nuS b n (skS b n 0 + 1) 1 4).2.1 (xYe X (nuS b n (skS b n 0 + 1) 1 4).2.2)).1, X)
  else if (lsN b n 240 (nuS b n (skS b n 0 + 1) 1 4).2.1 (xYe X (nuS b n (skS b n 0 + 1) 1 4).2.2)).2.1 < n then ((lsN b n 240 (nuS b n (skS b n 0 + 1) 1 4).2.1 (xYe X (nuS b n (skS b n 0 + 1) 1 4).2.2)).2.1, X)
  else (-1, (lsN b n 240 (nuS b n (skS b n 0 + 1) 1 4).2.1 (xYe X (nuS b n (skS b n 0 + 1) 1 4).2.2)).2.2)
/-- how many would pay p or more, p at least -/
def rkN (cn : Int → Int) : Nat → Int
  | 0 => 0
  | m + 1 => rkN cn m + cn (99 - m)
def rgS (cn : Int → Int) (p : Int) : Int := rkN cn (100 - p).toNat
theorem rgS_step {cn : Int → Int} {p : Int} (h0 : 0 ≤ p) (h1 : p ≤ 99) : rgS cn p = rgS cn (p + 1) + cn p := by
  unfold rgS
  rw [show (100 - p).toNat = (100 - (p + 1)).toNat + 1 by omega]
  simp only [rkN]
  congr 2
  omega
theorem rgS_top (cn : Int → Int) : rgS cn 100 = 0 := rfl
theorem rkN_fu {cn : Int → Int} {p v : Int} : ∀ m : Nat, m ≤ 100 → rkN (fu cn p (cn p + v)) m = rkN cn m + (if 99 - m < p ∧ p ≤ 99 then v else 0)
  | 0, _ => by simp only [rkN]; rw [if_neg (by omega)]; omega
  | m + 1, h => by
    simp only [rkN]
    rw [rkN_fu m (by omega)]
    unfold fu
    by_cases e : (99 - (m : Int)) = p
    · rw [if_pos e, if_neg (by omega), if_pos (by omega), e]
      omega
    · rw [if_neg e]
      by_cases q : 99 - (m : Int) < p ∧ p ≤ 99
      · rw [if_pos q, if_pos (by omega)]; omega
      · rw [if_neg q, if_neg (by omega)]; omega
theorem rgS_fu {cn : Int → Int} {p v q : Int} (hp0 : 1 ≤ p) (hp : p ≤ 99) (h0 : 0 ≤ q) (h1 : q ≤ 100) : rgS (fu cn p (cn p + v)) q = rgS cn q + (if q ≤ p then v else 0) := by
  unfold rgS
  rw [rkN_fu _ (by omega)]
  congr 1
  by_cases e : q ≤ p
  · rw [if_pos e, if_pos (by omega)]
  · rw [if_neg e, if_neg (by omega)]
/-- what is true of a draft on the way -/
def XOK (X : DrS) : Prop := 1 ≤ xSe X ∧ xSe X ≤ 4 ∧ 0 ≤ xCo X ∧ xCo X ≤ 30 ∧ 0 ≤ xMi X ∧ xMi X ≤ 20 ∧ xMi X ≠ 1 ∧ 0 ≤ xRo X ∧ xRo X ≤ 20 ∧ 0 ≤ xSw X ∧ xSw X ≤ 20 ∧ 0 ≤ xEa X ∧ xEa X ≤ 9 * xSw X ∧ xEa X = rgS (xCn X) 1 ∧ (∀ p : Int, 0 ≤ p → p ≤ 99 → 0 ≤ xCn X p ∧ xCn X p ≤ 180) ∧
  ∀ s : Int, 0 ≤ s → s < 4 → 0 ≤ xHv X s ∧ xHv X s ≤ 4 ∧ 0 ≤ xWs X s ∧ xWs X s ≤ 12 ∧ xWs X s = suN (xWt X) (4 * s) (xHv X s).toNat ∧ ∀ i : Int, 0 ≤ i → i < xHv X s → 0 ≤ xSk X (4 * s + i) ∧ xSk X (4 * s + i) ≤ 20 ∧ 1 ≤ xWt X (4 * s + i) ∧ xWt X (4 * s + i) ≤ 9
theorem rkN_le {cn : Int → Int} (h : ∀ p : Int, 0 ≤ p → p ≤ 99 → 0 ≤ cn p) : ∀ (m k : Nat), m + k ≤ 100 → rkN cn m ≤ rkN cn (m + k)
  | m, 0, _ => Int.le_refl _
  | m, k + 1, hk => by
    have h1 := rkN_le h m k (by omega)
    have h2 := h (99 - ((m + k : Nat) : Int)) (by omega) (by omega)
    show _ ≤ rkN cn (m + k) + cn (99 - ((m + k : Nat) : Int))
    omega
theorem rgS_le {cn : Int → Int} (h : ∀ p : Int, 0 ≤ p → p ≤ 99 → 0 ≤ cn p) {p q : Int} (h0 : 0 ≤ p) (h1 : p ≤ q) (h2 : q ≤ 100) : rgS cn q ≤ rgS cn p := by
  unfold rgS
  have := rkN_le h (100 - q).toNat ((100 - p).toNat - (100 - q).toNat) (by omega)
  rw [show (100 - q).toNat + ((100 - p).toNat - (100 - q).toNat) = (100 - p).toNat by omega] at this
  exact this
theorem cn_le {cn : Int → Int} (h : ∀ p : Int, 0 ≤ p → p ≤ 99 → 0 ≤ cn p) {p : Int} (h0 : 1 ≤ p) (h1 : p ≤ 99) : cn p ≤ rgS cn 1 := by
  have a1 := rgS_step (cn := cn) (p := p) (by omega) h1
  have a2 := rgS_le h (p := 1) (q := p) (by omega) h0 (by omega)
  have a3 := rgS_le h (p := p + 1) (q := 100) (by omega) (by omega) (by omega)
  rw [rgS_top] at a3
  omega
theorem suN_fu {f : Int → Int} {b x v : Int} : ∀ n : Nat, (x < b ∨ b + n ≤ x) → suN (fu f x v) b n = suN f b n
  | 0, _ => rfl
  | n + 1, h => by
    simp only [suN]
    rw [suN_fu n (by omega), fu_ne (by omega)]
theorem stS_ok {b : Int → Int} {n i : Int} {X : DrS} (hX : XOK X) (h0 : 0 ≤ i) (h1 : i ≤ n) (hf : (stS b n i X).1 = -1) : XOK (stS b n i X).2.2 ∧ i ≤ (stS b n i X).2.1 ∧ (stS b n i X).2.1 ≤ n := by
  obtain ⟨x1, x2, x3, x4, x5, x6, x7, x8, x9, x10, x11, x12, x13, x14, x15, x16⟩ := id hX
  obtain ⟨s1, s2, -⟩ := skS_b b n i
  have s2 := s2 h1
  unfold stS at hf ⊢
  split at hf
  · rename_i q
    rw [if_pos q]
    have l1 : skS b n i < n := hrS_lt (b := b) (by omega) (by omega)
    unfold stW at hf ⊢
    obtain ⟨a1, a2, a3, a4, a5⟩ := nuS_b (b := b) (n := n) (i := skS b n i + 1) (lo := 1) (hi := 99) (by omega) (by omega)
    obtain ⟨c1, c2, c3, c4, c5⟩ := nuS_b (b := b) (n := n) (i := (nuS b n (skS b n i + 1) 1 99).2.1) (lo := 1) (hi := 9) (by omega) a2
    split at hf
    · simp only at hf; omega
    · rename_i q1
      rw [if_neg q1]
      split at hf
      · rename_i q2; exact absurd hf q2
      · rename_i q2
        rw [if_neg q2]
        split at hf
        · rename_i q3; exact absurd hf q3
        · rename_i q3
          rw [if_neg q3]
          have a5 := a5 (by omega)
          have c5 := c5 (by omega)
          generalize nuS b n (skS b n i + 1) 1 99 = u at *
          generalize nuS b n u.2.1 1 9 = v at *
          simp only at hf ⊢
          refine ⟨⟨x1, x2, x3, x4, x5, x6, x7, x8, x9, ?_, ?_, ?_, ?_, ?_, fun p p0 p1 => ?_, x16⟩, by omega, c2⟩
          · show 0 ≤ xSw X + 1; omega
          · show xSw X + 1 ≤ 20; omega
          · show 0 ≤ xEa X + v.2.2; omega
          · show xEa X + v.2.2 ≤ 9 * (xSw X + 1); omega
          · show xEa X + v.2.2 = rgS (fu (xCn X) u.2.2 (xCn X u.2.2 + v.2.2)) 1
            rw [rgS_fu (by omega) (by omega) (by omega) (by omega), if_pos (by omega), x14]
          · have hnn : ∀ p : Int, 0 ≤ p → p ≤ 99 → 0 ≤ fu (xCn X) u.2.2 (xCn X u.2.2 + v.2.2) p := fun p p0 p1 => by
              unfold fu
              have := x15 p p0 p1
              split
              · rename_i e; rw [← e]; omega
              · omega
            refine ⟨hnn p p0 p1, ?_⟩
            show fu (xCn X) u.2.2 (xCn X u.2.2 + v.2.2) p ≤ 180
            by_cases e : p = u.2.2
            · have := cn_le hnn (p := p) (by omega) p1
              rw [rgS_fu (by omega) (by omega) (by omega) (by omega), if_pos (by omega), ← x14] at this
              omega
            · rw [fu_ne e]
              exact (x15 p p0 p1).2
  · rename_i q
    rw [if_neg q]
    split at hf
    · rename_i q
      rw [if_pos q]
      have l1 : skS b n i < n := hrS_lt (b := b) (by omega) (by omega)
      unfold stH at hf ⊢
      obtain ⟨a1, a2, a3, a4, a5⟩ := nuS_b (b := b) (n := n) (i := skS b n i + 1) (lo := 0) (hi := xSe X - 1) (by omega) (by omega)
      split at hf
      · rename_i q2; exact absurd hf q2
      · rename_i q2
        rw [if_neg q2]
        split at hf
        · simp only at hf; omega
        · rename_i q3
          rw [if_neg q3]
          have a5 := a5 (by omega)
          generalize nuS b n (skS b n i + 1) 0 (xSe X - 1) = u at *
          obtain ⟨c1, c2, c3, c4, c5⟩ := nuS_b (b := b) (n := n) (i := u.2.1) (lo := 0) (hi := 20) (by omega) a2
          split at hf
          · rename_i q4; exact absurd hf q4
          · rename_i q4
            rw [if_neg q4]
            have c5 := c5 (by omega)
            generalize nuS b n u.2.1 0 20 = v at *
            obtain ⟨e1, e2, e3, e4, e5⟩ := nuS_b (b := b) (n := n) (i := v.2.1) (lo := 1) (hi := min 9 (12 - xWs X u.2.2)) (by omega) c2
            split at hf
            · rename_i q5; exact absurd hf q5
            · rename_i q5
              rw [if_neg q5]
              have e5 := e5 (by omega)
              generalize nuS b n v.2.1 1 (min 9 (12 - xWs X u.2.2)) = z at *
              simp only at hf ⊢
              obtain ⟨y1, y2, y3, y4, y5, y6⟩ := x16 u.2.2 (by omega) (by omega)
              refine ⟨⟨x1, x2, x3, x4, x5, x6, x7, x8, x9, x10, x11, x12, x13, x14, x15, fun s z0 z1 => ?_⟩, by omega, e2⟩
              obtain ⟨w1, w2, w3, w4, w5, w6⟩ := x16 s z0 z1
              show 0 ≤ fu (xHv X) u.2.2 (xHv X u.2.2 + 1) s ∧ fu (xHv X) u.2.2 (xHv X u.2.2 + 1) s ≤ 4 ∧ 0 ≤ fu (xWs X) u.2.2 (xWs X u.2.2 + z.2.2) s ∧ fu (xWs X) u.2.2 (xWs X u.2.2 + z.2.2) s ≤ 12 ∧ fu (xWs X) u.2.2 (xWs X u.2.2 + z.2.2) s = suN (fu (xWt X) (u.2.2 * 4 + xHv X u.2.2) z.2.2) (4 * s) (fu (xHv X) u.2.2 (xHv X u.2.2 + 1) s).toNat ∧ ∀ i : Int, 0 ≤ i → i < fu (xHv X) u.2.2 (xHv X u.2.2 + 1) s → 0 ≤ fu (xSk X) (u.2.2 * 4 + xHv X u.2.2) v.2.2 (4 * s + i) ∧ fu (xSk X) (u.2.2 * 4 + xHv X u.2.2) v.2.2 (4 * s + i) ≤ 20 ∧ 1 ≤ fu (xWt X) (u.2.2 * 4 + xHv X u.2.2) z.2.2 (4 * s + i) ∧ fu (xWt X) (u.2.2 * 4 + xHv X u.2.2) z.2.2 (4 * s + i) ≤ 9
              by_cases e : s = u.2.2
              · subst e
                simp only [fu_same]
                refine ⟨by omega, by omega, by omega, by omega, ?_, fun i i0 i1 => ?_⟩
                · rw [show (xHv X u.2.2 + 1).toNat = (xHv X u.2.2).toNat + 1 by omega]
                  simp only [suN]
                  rw [suN_fu _ (by omega), ← w5, show 4 * u.2.2 + ((xHv X u.2.2).toNat : Int) = u.2.2 * 4 + xHv X u.2.2 by omega, fu_same]
                · by_cases ei : i = xHv X u.2.2
                  · rw [show 4 * u.2.2 + i = u.2.2 * 4 + xHv X u.2.2 by omega, fu_same, fu_same]
                    omega
                  · rw [fu_ne (by omega), fu_ne (by omega)]
                    exact w6 i i0 (by omega)
              · rw [fu_ne e, fu_ne e, suN_fu _ (by omega)]
                refine ⟨w1, w2, w3, w4, w5, fun i i0 i1 => ?_⟩
                rw [fu_ne (by omega), fu_ne (by omega)]
                exact w6 i i0 i1
    · rename_i q
      rw [if_neg q]
      split at hf
      · rename_i q
        rw [if_pos q]
        have l1 : skS b n i < n := hrS_lt (b := b) (by omega) (by omega)
        unfold stC at hf ⊢
        obtain ⟨a1, a2, a3, a4, a5⟩ := nuS_b (b := b) (n := n) (i := skS b n i + 1) (lo := 0) (hi := 30) (by omega) (by omega)
        split at hf
        · rename_i q2; exact absurd hf q2
        · rename_i q2
          rw [if_neg q2]
          have a5 := a5 (by omega)
          exact ⟨⟨x1, x2, a5.2.1, a5.2.2.1, x5, x6, x7, x8, x9, x10, x11, x12, x13, x14, x15, x16⟩, by simp only; omega, a2⟩
      · rename_i q
        rw [if_neg q]
        split at hf
        · rename_i q
          rw [if_pos q]
          have l1 : skS b n i < n := hrS_lt (b := b) (by omega) (by omega)
          unfold stM at hf ⊢
          obtain ⟨a1, a2, a3, a4, a5⟩ := nuS_b (b := b) (n := n) (i := skS b n i + 1) (lo := 0) (hi := 20) (by omega) (by omega)
          split at hf
          · rename_i q2; exact absurd hf q2
          · rename_i q2
            rw [if_neg q2]
            split at hf
            · simp only at hf; omega
            · rename_i q3
              rw [if_neg q3]
              have a5 := a5 (by omega)
              exact ⟨⟨x1, x2, x3, x4, a5.2.1, a5.2.2.1, q3, x8, x9, x10, x11, x12, x13, x14, x15, x16⟩, by simp only; omega, a2⟩
        · rename_i q
          rw [if_neg q]
          split at hf
          · rename_i q
            rw [if_pos q]
            have l1 : skS b n i < n := hrS_lt (b := b) (by omega) (by omega)
            unfold stR at hf ⊢
            obtain ⟨a1, a2, a3, a4, a5⟩ := nuS_b (b := b) (n := n) (i := skS b n i + 1) (lo := 0) (hi := 20) (by omega) (by omega)
            split at hf
            · rename_i q2; exact absurd hf q2
            · rename_i q2
              rw [if_neg q2]
              have a5 := a5 (by omega)
              exact ⟨⟨x1, x2, x3, x4, x5, x6, x7, a5.2.1, a5.2.2.1, x10, x11, x12, x13, x14, x15, x16⟩, by simp only; omega, a2⟩
          · simp only at hf; omega
theorem lsN_ok {b : Int → Int} {n : Int} : ∀ (m : Nat) {i : Int} {X : DrS}, XOK X → 0 ≤ i → i ≤ n → (lsN b n m i X).1 = -1 → XOK (lsN b n m i X).2.2 ∧ i ≤ (lsN b n m i X).2.1 ∧ (lsN b n m i X).2.1 ≤ n
  | 0, i, X, hX, h0, h1, _ => ⟨hX, Int.le_refl _, h1⟩
  | m + 1, i, X, hX, h0, h1, hf => by
    obtain ⟨s1, s2, -⟩ := skS_b b n i
    have s2 := s2 h1
    simp only [lsN] at hf ⊢
    split at hf
    · rename_i q
      rw [if_pos q]
      have l1 : skS b n i < n := hrS_lt (b := b) (by omega) (by omega)
      split at hf
      · rename_i q1
        rw [if_pos q1]
        obtain ⟨a1, a2, a3⟩ := stS_ok hX (by omega) (by omega) q1
        obtain ⟨b1, b2, b3⟩ := lsN_ok m a1 (by omega) a3 hf
        exact ⟨b1, by omega, b3⟩
      · rename_i q1
        exact absurd hf q1
    · rename_i q
      rw [if_neg q]
      exact ⟨hX, s1, s2⟩
theorem laR_ok {b : Int → Int} {n : Int} {cn hv ws sk wt : Int → Int} (hn : 0 ≤ n) (h1 : ∀ p : Int, 0 ≤ p → p < 100 → cn p = 0) (h2 : ∀ p : Int, 0 ≤ p → p < 4 → hv p = 0) (h3 : ∀ p : Int, 0 ≤ p → p < 4 → ws p = 0) (hf : (laR b n (x0S cn hv ws sk wt)).1 = -1) : XOK (laR b n (x0S cn hv ws sk wt)).2 := by
  obtain ⟨s1, s2, -⟩ := skS_b b n 0
  have s2 := s2 hn
  unfold laR at hf ⊢
  split at hf
  · simp only at hf; omega
  · rename_i q1
    rw [if_neg q1]
    have l1 : skS b n 0 < n := hrS_lt (b := b) (by omega) (by omega)
    obtain ⟨a1, a2, a3, a4, a5⟩ := nuS_b (b := b) (n := n) (i := skS b n 0 + 1) (lo := 1) (hi := 4) (by omega) (by omega)
    split at hf
    · rename_i q2; exact absurd hf q2
    · rename_i q2
      rw [if_neg q2]
      have a5 := a5 (by omega)
      generalize nuS b n (skS b n 0 + 1) 1 4 = u at *
      have hX : XOK (xYe (x0S cn hv ws sk wt) u.2.2) := by
        have hcn : ∀ m : Nat, m ≤ 100 → rkN cn m = 0 := fun m => by
          induction m with
          | zero => exact fun _ => rfl
          | succ m ih =>
            intro hm
            simp only [rkN]
            rw [ih (by omega), h1 _ (by omega) (by omega)]
            rfl
        refine ⟨a5.2.1, a5.2.2.1, Int.le_refl 0, ?_, Int.le_refl 0, ?_, ?_, ?_, Int.le_refl 20, Int.le_refl 0, ?_, Int.le_refl 0, Int.le_refl 0, (hcn _ (by decide)).symm, fun p p0 p1 => ?_, fun s z0 z1 => ?_⟩
        · show (0 : Int) ≤ 30; omega
        · show (0 : Int) ≤ 20; omega
        · show (0 : Int) ≠ 1; omega
        · show (0 : Int) ≤ 20; omega
        · show (0 : Int) ≤ 20; omega
        · show 0 ≤ cn p ∧ cn p ≤ 180
          rw [h1 p p0 (by omega)]; omega
        · show 0 ≤ hv s ∧ hv s ≤ 4 ∧ 0 ≤ ws s ∧ ws s ≤ 12 ∧ ws s = suN wt (4 * s) (hv s).toNat ∧ ∀ i : Int, 0 ≤ i → i < hv s → 0 ≤ sk (4 * s + i) ∧ sk (4 * s + i) ≤ 20 ∧ 1 ≤ wt (4 * s + i) ∧ wt (4 * s + i) ≤ 9
          rw [h2 s z0 z1, h3 s z0 z1]
          exact ⟨Int.le_refl 0, by omega, Int.le_refl 0, by omega, rfl, fun i i0 i1 => by omega⟩
      split at hf
      · rename_i q3; exact absurd hf q3
      · rename_i q3
        rw [if_neg q3]
        have q3' : (lsN b n 240 u.2.1 (xYe (x0S cn hv ws sk wt) u.2.2)).1 = -1 := by omega
        obtain ⟨b1, b2, b3⟩ := lsN_ok 240 hX (by omega) a2 q3'
        split at hf
        · simp only at hf; omega
        · rename_i q4
          rw [if_neg q4]
          exact b1
