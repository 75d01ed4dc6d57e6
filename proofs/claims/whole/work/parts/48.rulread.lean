/-! ===== reading a rule, as a function: fault or -1, place, what is written ===== -/
abbrev RP : Type := Int × Int × List Int
def rpF (f : Int) : RP := (f, 0, [])
def rpT (a : RP) (g : Int → List Int → RP) : RP := if a.1 = -1 then g a.2.1 a.2.2 else rpF a.1
theorem rpT_ok {a : RP} {g : Int → List Int → RP} (h : a.1 = -1) : rpT a g = g a.2.1 a.2.2 := if_pos h
theorem rpT_no {a : RP} {g : Int → List Int → RP} (h : a.1 ≠ -1) : rpT a g = rpF a.1 := if_neg h
def neS (b : Int → Int) (n c i : Int) : RP := if hrS b n (skS b n i) = c then (-1, skS b n i + 1, []) else rpF (skS b n i)
def dgN (b : Int → Int) (n : Int) : Nat → Int → Int → Int × Int
  | 0, i, v => (i, v)
  | m + 1, i, v => if dgS (hrS b n i) then dgN b n m (i + 1) (v * 10 + hrS b n i - 48) else (i, v)
def diS (b : Int → Int) (n p : Int) : RP := if dgS (hrS b n (dgN b n 4 p 0).1) then rpF (dgN b n 4 p 0).1 else (-1, (dgN b n 4 p 0).1, [(dgN b n 4 p 0).2])
def lcS (c : Int) : Int := if c = 97 then -1 else if c = 115 then -2 else if c = 110 then -3 else if c = 112 then -4 else if c = 114 then -5 else 0
def brS (b : Int → Int) (n c : Int) (a : RP) : RP := rpT a fun j t => rpT (neS b n c j) fun j' _ => (-1, j', t)
def atG (b : Int → Int) (n : Int) (sm : Option (Int → RP)) (i : Int) : RP :=
  if dgS (hrS b n (skS b n i)) then diS b n (skS b n i)
  else if hrS b n (skS b n i) = 91 then (match sm with
    | none => rpF (skS b n i)
    | some s => brS b n 93 (s (skS b n i + 1)))
  else if lcS (hrS b n (skS b n i)) = 0 then rpF (skS b n i) else (-1, skS b n i + 1, [lcS (hrS b n (skS b n i))])
/-- the rest of a row of parts joined by one of two signs -/
def lpO (b : Int → Int) (n : Int) (P : Int → RP) (c1 o1 c2 o2 : Int) : Nat → RP → RP
  | 0, r => r
  | m + 1, r => if r.1 = -1 ∧ (hrS b n r.2.1 = c1 ∨ hrS b n r.2.1 = c2) then lpO b n P c1 o1 c2 o2 m (rpT (P (r.2.1 + 1)) fun j t => (-1, skS b n j, r.2.2 ++ t ++ [if hrS b n r.2.1 = c1 then o1 else o2])) else r
def biG (b : Int → Int) (n : Int) (P : Int → RP) (c1 o1 c2 o2 i : Int) : RP := lpO b n P c1 o1 c2 o2 240 (rpT (P i) fun j t => (-1, skS b n j, t))
def tmG (b : Int → Int) (n : Int) (P : Int → RP) : Int → RP := biG b n P 42 (-8) 47 (-9)
def smG (b : Int → Int) (n : Int) (P : Int → RP) : Int → RP := biG b n P 43 (-6) 45 (-7)
/-- sums with so many levels to go -/
def smK (b : Int → Int) (n : Int) : Nat → Int → RP
  | 0 => smG b n (tmG b n (atG b n none))
  | K + 1 => smG b n (tmG b n (atG b n (some (smK b n K))))
def suO (b : Int → Int) (n : Int) : Nat → Option (Int → RP)
  | 0 => none
  | K + 1 => some (smK b n K)
theorem smK_eq (b : Int → Int) (n : Int) (K : Nat) : smK b n K = smG b n (tmG b n (atG b n (suO b n K))) := by cases K <;> rfl
abbrev isCm (c : Int) : Prop := c = 61 ∨ c = 60 ∨ c = 62
def coP (c : Int) : Int := if c = 61 then -10 else if c = 60 then -11 else -12
def cmG (b : Int → Int) (n : Int) (S : Int → RP) (i : Int) : RP := if isCm (hrS b n (skS b n i)) then rpT (S (skS b n i + 1)) fun j t => (-1, j, t ++ [coP (hrS b n (skS b n i))]) else rpF (skS b n i)
def lpT (b : Int → Int) (n : Int) (P : Int → RP) (c o : Int) : Nat → RP → RP
  | 0, r => r
  | m + 1, r => if r.1 = -1 then (if hrS b n (skS b n r.2.1) = c then lpT b n P c o m (rpT (P (skS b n r.2.1 + 1)) fun j t => (-1, j, r.2.2 ++ t ++ [o])) else (-1, skS b n r.2.1, r.2.2)) else r
def trG (b : Int → Int) (n : Int) (U : Int → RP) (r : RP) : RP := lpT b n U 38 (-13) 240 r
def coG (b : Int → Int) (n : Int) (U : Int → RP) (r : RP) : RP := lpT b n (fun i => trG b n U (U i)) 124 (-14) 240 (trG b n U r)
def unG (b : Int → Int) (n : Int) (U : Option (Int → RP)) (S : Int → RP) (i : Int) : RP :=
  if hrS b n (skS b n i) = 33 then (match U with
    | none => rpF (skS b n i)
    | some u => rpT (u (skS b n i + 1)) fun j t => (-1, j, t ++ [-15]))
  else if hrS b n (skS b n i) = 40 then (match U with
    | none => rpF (skS b n i)
    | some u => brS b n 41 (coG b n u (u (skS b n i + 1))))
  else rpT (S (skS b n i)) fun j t => rpT (cmG b n S j) fun j' t' => (-1, j', t ++ t')
def unK (b : Int → Int) (n : Int) : Nat → Int → RP
  | 0 => unG b n none (smK b n 0)
  | K + 1 => unG b n (some (unK b n K)) (smK b n (K + 1))
def unO (b : Int → Int) (n : Int) : Nat → Option (Int → RP)
  | 0 => none
  | K + 1 => some (unK b n K)
theorem unK_eq (b : Int → Int) (n : Int) (K : Nat) : unK b n K = unG b n (unO b n K) (smK b n K) := by cases K <;> rfl
/-- a clause: fault or -1, place, test, sum -/
abbrev RC : Type := Int × Int × List Int × List Int
def rcF (f : Int) : RC := (f, 0, [], [])
def rcT (a : RP) (g : Int → List Int → RC) : RC := if a.1 = -1 then g a.2.1 a.2.2 else rcF a.1
theorem rcT_ok {a : RP} {g : Int → List Int → RC} (h : a.1 = -1) : rcT a g = g a.2.1 a.2.2 := if_pos h
theorem rcT_no {a : RP} {g : Int → List Int → RC} (h : a.1 ≠ -1) : rcT a g = rcF a.1 := if_neg h
def giG (b : Int → Int) (n : Int) (t : List Int) (j : Int) : RC := rcT (neS b n 63 j) fun j' _ => rcT (smK b n 6 j') fun j2 u => (-1, j2, t, u)
def clB (b : Int → Int) (n i : Int) : RC :=
  if hrS b n (skS b n i) = 33 ∨ hrS b n (skS b n i) = 40 then rcT (coG b n (unK b n 6) (unK b n 6 (skS b n i))) fun j t => giG b n t j
  else rcT (smK b n 6 (skS b n i)) fun j t => if isCm (hrS b n (skS b n j)) then rcT (coG b n (unK b n 6) (cmG b n (smK b n 6) (skS b n j))) fun j' u => giG b n (t ++ u) j' else (-1, skS b n j, [], t)
def clG (b : Int → Int) (n i : Int) : RC := rcT (neS b n 107 i) fun j _ => rcT (neS b n 58 j) fun j' _ => clB b n j'
/-- how the class writes a clause down -/
def ccL (c : List Int × List Int) : List Int := if c.1 = [] then c.2 ++ [-17] else c.1 ++ (-16 :: (c.2 ++ [-17]))
abbrev RU2 : Type := Int × Int × List (List Int × List Int)
def lpC (b : Int → Int) (n : Int) : Nat → RU2 → RU2
  | 0, r => r
  | m + 1, r => if r.1 = -1 then (if hrS b n (skS b n r.2.1) = 59 then lpC b n m (if (clG b n (skS b n r.2.1 + 1)).1 = -1 then (-1, (clG b n (skS b n r.2.1 + 1)).2.1, r.2.2 ++ [(clG b n (skS b n r.2.1 + 1)).2.2]) else ((clG b n (skS b n r.2.1 + 1)).1, 0, [])) else (-1, skS b n r.2.1, r.2.2)) else r
def ruL (b : Int → Int) (n : Int) : RU2 := lpC b n 240 (if (clG b n 0).1 = -1 then (-1, (clG b n 0).2.1, [(clG b n 0).2.2]) else ((clG b n 0).1, 0, []))
/-- the whole rule: its fault or -1, and its clauses -/
def ruR (b : Int → Int) (n : Int) : Int × List (List Int × List Int) := if (ruL b n).1 ≠ -1 then ((ruL b n).1, []) else if (ruL b n).2.1 < n then ((ruL b n).2.1, []) else (-1, (ruL b n).2.2)
/-- a reader's answers lie within the text, and it writes no more than it reads -/
def RpB (n i : Int) (r : RP) : Prop := -1 ≤ r.1 ∧ r.1 ≤ n ∧ (r.1 = -1 → i < r.2.1 ∧ r.2.1 ≤ n ∧ (r.2.2.length : Int) ≤ r.2.1 - i)
def GdP (n : Int) (P : Int → RP) : Prop := ∀ i : Int, 0 ≤ i → i ≤ n → RpB n i (P i)
theorem RpB.f {n i f : Int} (h0 : -1 < f) (h1 : f ≤ n) : RpB n i (rpF f) := ⟨by show -1 ≤ f; omega, h1, fun h => by have h : f = -1 := h; omega⟩
theorem RpB.t {n i : Int} {a : RP} {g : Int → List Int → RP} (ha : RpB n i a) (hg : a.1 = -1 → RpB n i (g a.2.1 a.2.2)) : RpB n i (rpT a g) := by
  unfold rpT
  split
  · rename_i q; exact hg q
  · rename_i q; exact RpB.f (by have := ha.1; omega) ha.2.1
theorem RpB.mono {n i i' : Int} {a : RP} (ha : RpB n i' a) (hi : i ≤ i') : RpB n i a := ⟨ha.1, ha.2.1, fun h => by have := ha.2.2 h; omega⟩
theorem neS_b {b : Int → Int} {n c i : Int} (hc : c ≠ 0) (h0 : 0 ≤ i) (h1 : i ≤ n) : RpB n i (neS b n c i) := by
  obtain ⟨s1, s2, -⟩ := skS_b b n i
  have s2 := s2 h1
  unfold neS
  split
  · rename_i q
    have l1 : skS b n i < n := hrS_lt (b := b) (by omega) (by omega)
    exact ⟨by simp, by show (-1 : Int) ≤ n; omega, fun _ => by simp only [List.length_nil]; omega⟩
  · exact RpB.f (by omega) (by omega)
theorem dgN_b {b : Int → Int} {n : Int} : ∀ (m : Nat) (i v : Int), 0 ≤ i → i ≤ n → i ≤ (dgN b n m i v).1 ∧ (dgN b n m i v).1 ≤ n ∧ (0 < m → dgS (hrS b n i) → i < (dgN b n m i v).1)
  | 0, i, v, h0, h1 => ⟨Int.le_refl _, h1, fun h => by omega⟩
  | m + 1, i, v, h0, h1 => by
    simp only [dgN]
    split
    · rename_i q
      have l1 : i < n := hrS_lt (b := b) h0 (by omega)
      obtain ⟨a1, a2, -⟩ := dgN_b (b := b) (n := n) m (i + 1) (v * 10 + hrS b n i - 48) (by omega) (by omega)
      exact ⟨by omega, a2, fun _ _ => by omega⟩
    · rename_i q
      exact ⟨Int.le_refl _, h1, fun _ h => absurd h q⟩
theorem dgN_v {b : Int → Int} {n : Int} : ∀ (m : Nat) (i v : Int), 0 ≤ v → 0 ≤ (dgN b n m i v).2 ∧ (dgN b n m i v).2 + 1 ≤ (v + 1) * 10 ^ m
  | 0, i, v, h => by simp only [dgN]; omega
  | m + 1, i, v, h => by
    simp only [dgN]
    split
    · obtain ⟨a1, a2⟩ := dgN_v (b := b) (n := n) m (i + 1) (v * 10 + hrS b n i - 48) (by omega)
      refine ⟨a1, Int.le_trans a2 ?_⟩
      rw [Int.pow_succ, ← Int.mul_assoc, Int.mul_right_comm]
      exact Int.mul_le_mul_of_nonneg_right (by omega) (Int.pow_nonneg (by omega))
    · refine ⟨h, ?_⟩
      have h1 : (1 : Int) ≤ 10 ^ (m + 1) := Int.pow_pos (by omega)
      have := Int.mul_le_mul_of_nonneg_left h1 (show 0 ≤ v + 1 by omega)
      simpa using this
theorem diS_b {b : Int → Int} {n i : Int} (h0 : 0 ≤ i) (h1 : i ≤ n) (hd : dgS (hrS b n i)) : RpB n i (diS b n i) := by
  obtain ⟨a1, a2, a3⟩ := dgN_b (b := b) (n := n) 4 i 0 h0 h1
  have a3 := a3 (by omega) hd
  unfold diS
  split
  · exact RpB.f (by omega) a2
  · exact ⟨by simp, by show (-1 : Int) ≤ n; omega, fun _ => by simp only [List.length_cons, List.length_nil]; omega⟩
theorem brS_b {b : Int → Int} {n c i i' : Int} {a : RP} (hc : c ≠ 0) (h0 : 0 ≤ i) (hi : i ≤ i') (ha : RpB n i' a) : RpB n i (brS b n c a) := by
  refine (ha.mono hi).t fun q => ?_
  have h1 := ha.2.2 q
  have h2 := neS_b (b := b) (n := n) (c := c) (i := a.2.1) hc (by omega) h1.2.1
  refine (h2.mono (by omega)).t fun q2 => ?_
  have h3 := h2.2.2 q2
  exact ⟨by simp, by show (-1 : Int) ≤ n; omega, fun _ => by simp only; omega⟩
theorem atG_b {b : Int → Int} {n : Int} {sm : Option (Int → RP)} (hs : ∀ s, sm = some s → GdP n s) : GdP n (atG b n sm) := fun i h0 h1 => by
  obtain ⟨s1, s2, -⟩ := skS_b b n i
  have s2 := s2 h1
  unfold atG
  split
  · rename_i q
    exact (diS_b (by omega) s2 q).mono s1
  · split
    · rename_i q
      have l1 : skS b n i < n := hrS_lt (b := b) (by omega) (by omega)
      cases sm with
      | none => exact RpB.f (by omega) s2
      | some s => exact brS_b (by omega) h0 (by omega) (hs s rfl _ (by omega) (by omega))
    · split
      · exact RpB.f (by omega) s2
      · rename_i q
        have l1 : skS b n i < n := hrS_lt (b := b) (by omega) (fun h => q (by rw [h]; rfl))
        exact ⟨by simp, by show (-1 : Int) ≤ n; omega, fun _ => by simp only [List.length_cons, List.length_nil]; omega⟩
theorem lpO_b {b : Int → Int} {n : Int} {P : Int → RP} {c1 o1 c2 o2 i : Int} (hP : GdP n P) (hc1 : c1 ≠ 0) (hc2 : c2 ≠ 0) (h0 : 0 ≤ i) : ∀ (m : Nat) (r : RP), RpB n i r → RpB n i (lpO b n P c1 o1 c2 o2 m r)
  | 0, r, h => h
  | m + 1, r, h => by
    simp only [lpO]
    split
    · rename_i q
      have h1 := h.2.2 q.1
      have l1 : r.2.1 < n := hrS_lt (b := b) (by omega) (by omega)
      have h2 := hP (r.2.1 + 1) (by omega) (by omega)
      refine lpO_b hP hc1 hc2 h0 m _ ((h2.mono (by omega)).t fun q2 => ?_)
      have h3 := h2.2.2 q2
      obtain ⟨s1, s2, -⟩ := skS_b b n (P (r.2.1 + 1)).2.1
      have s2 := s2 h3.2.1
      exact ⟨by simp, by show (-1 : Int) ≤ n; omega, fun _ => by simp only [List.length_append, List.length_cons, List.length_nil]; omega⟩
    · exact h
theorem biG_b {b : Int → Int} {n : Int} {P : Int → RP} {c1 o1 c2 o2 : Int} (hP : GdP n P) (hc1 : c1 ≠ 0) (hc2 : c2 ≠ 0) : GdP n (biG b n P c1 o1 c2 o2) := fun i h0 h1 => by
  refine lpO_b hP hc1 hc2 h0 _ _ ((hP i h0 h1).t fun q => ?_)
  have h3 := (hP i h0 h1).2.2 q
  obtain ⟨s1, s2, -⟩ := skS_b b n (P i).2.1
  have s2 := s2 h3.2.1
  exact ⟨by simp, by show (-1 : Int) ≤ n; omega, fun _ => by simp only; omega⟩
theorem tmG_b {b : Int → Int} {n : Int} {P : Int → RP} (hP : GdP n P) : GdP n (tmG b n P) := biG_b hP (by decide) (by decide)
theorem smK_b (b : Int → Int) (n : Int) : ∀ K : Nat, GdP n (smK b n K)
  | 0 => biG_b (tmG_b (atG_b fun s h => by cases h)) (by decide) (by decide)
  | K + 1 => biG_b (tmG_b (atG_b fun s h => by cases h; exact smK_b b n K)) (by decide) (by decide)
theorem suO_b (b : Int → Int) (n : Int) (K : Nat) : ∀ s, suO b n K = some s → GdP n s := by
  cases K with
  | zero => intro s h; cases h
  | succ K => intro s h; cases h; exact smK_b b n K
theorem cmG_b {b : Int → Int} {n : Int} {S : Int → RP} (hS : GdP n S) : GdP n (cmG b n S) := fun i h0 h1 => by
  obtain ⟨s1, s2, -⟩ := skS_b b n i
  have s2 := s2 h1
  unfold cmG
  split
  · rename_i q
    have l1 : skS b n i < n := hrS_lt (b := b) (by omega) (by omega)
    have h2 := hS (skS b n i + 1) (by omega) (by omega)
    refine (h2.mono (by omega)).t fun q2 => ?_
    have h3 := h2.2.2 q2
    exact ⟨by simp, by show (-1 : Int) ≤ n; omega, fun _ => by simp only [List.length_append, List.length_cons, List.length_nil]; omega⟩
  · exact RpB.f (by omega) s2
theorem lpT_b {b : Int → Int} {n : Int} {P : Int → RP} {c o i : Int} (hP : GdP n P) (hc : c ≠ 0) (h0 : 0 ≤ i) : ∀ (m : Nat) (r : RP), RpB n i r → RpB n i (lpT b n P c o m r)
  | 0, r, h => h
  | m + 1, r, h => by
    simp only [lpT]
    split
    · rename_i q
      have h1 := h.2.2 q
      obtain ⟨s1, s2, -⟩ := skS_b b n r.2.1
      have s2 := s2 h1.2.1
      split
      · rename_i q1
        have l1 : skS b n r.2.1 < n := hrS_lt (b := b) (by omega) (by omega)
        have h2 := hP (skS b n r.2.1 + 1) (by omega) (by omega)
        refine lpT_b hP hc h0 m _ ((h2.mono (by omega)).t fun q2 => ?_)
        have h3 := h2.2.2 q2
        exact ⟨by simp, by show (-1 : Int) ≤ n; omega, fun _ => by simp only [List.length_append, List.length_cons, List.length_nil]; omega⟩
      · exact ⟨by simp, by show (-1 : Int) ≤ n; omega, fun _ => by simp only; omega⟩
    · exact h
theorem trG_b {b : Int → Int} {n i : Int} {U : Int → RP} {r : RP} (hU : GdP n U) (h0 : 0 ≤ i) (hr : RpB n i r) : RpB n i (trG b n U r) := lpT_b hU (by decide) h0 _ _ hr
theorem coG_b {b : Int → Int} {n i : Int} {U : Int → RP} {r : RP} (hU : GdP n U) (h0 : 0 ≤ i) (hr : RpB n i r) : RpB n i (coG b n U r) := lpT_b (fun j a c => trG_b hU a (hU j a c)) (by decide) h0 _ _ (trG_b hU h0 hr)
theorem unG_b {b : Int → Int} {n : Int} {U : Option (Int → RP)} {S : Int → RP} (hU : ∀ u, U = some u → GdP n u) (hS : GdP n S) : GdP n (unG b n U S) := fun i h0 h1 => by
  obtain ⟨s1, s2, -⟩ := skS_b b n i
  have s2 := s2 h1
  unfold unG
  split
  · rename_i q
    have l1 : skS b n i < n := hrS_lt (b := b) (by omega) (by omega)
    cases U with
    | none => exact RpB.f (by omega) s2
    | some u =>
      have h2 := hU u rfl (skS b n i + 1) (by omega) (by omega)
      refine (h2.mono (by omega)).t fun q2 => ?_
      have h3 := h2.2.2 q2
      exact ⟨by simp, by show (-1 : Int) ≤ n; omega, fun _ => by simp only [List.length_append, List.length_cons, List.length_nil]; omega⟩
  · split
    · rename_i q
      have l1 : skS b n i < n := hrS_lt (b := b) (by omega) (by omega)
      cases U with
      | none => exact RpB.f (by omega) s2
      | some u => exact brS_b (by omega) h0 (show i ≤ skS b n i + 1 by omega) (coG_b (hU u rfl) (by omega) (hU u rfl _ (by omega) (by omega)))
    · have h2 := hS (skS b n i) (by omega) s2
      refine (h2.mono s1).t fun q2 => ?_
      have h3 := h2.2.2 q2
      have h4 := cmG_b (b := b) hS (S := S) (i := (S (skS b n i)).2.1) (by omega) h3.2.1
      refine (h4.mono (by omega)).t fun q3 => ?_
      have h5 := h4.2.2 q3
      exact ⟨by simp, by show (-1 : Int) ≤ n; omega, fun _ => by simp only [List.length_append]; omega⟩
theorem unK_b (b : Int → Int) (n : Int) : ∀ K : Nat, GdP n (unK b n K)
  | 0 => unG_b (fun u h => by cases h) (smK_b b n 0)
  | K + 1 => unG_b (fun u h => by cases h; exact unK_b b n K) (smK_b b n (K + 1))
/-- the same of a clause -/
def RcB (n i : Int) (r : RC) : Prop := -1 ≤ r.1 ∧ r.1 ≤ n ∧ (r.1 = -1 → i < r.2.1 ∧ r.2.1 ≤ n ∧ ((ccL r.2.2).length : Int) ≤ r.2.1 - i)
theorem RcB.t {n i i' : Int} {a : RP} {g : Int → List Int → RC} (hi : i ≤ i') (ha : RpB n i' a) (hg : a.1 = -1 → RcB n i (g a.2.1 a.2.2)) : RcB n i (rcT a g) := by
  unfold rcT
  split
  · rename_i q; exact hg q
  · rename_i q
    have h1 := ha.1
    exact ⟨by show -1 ≤ a.1; omega, ha.2.1, fun h => absurd h q⟩
theorem ccL_len (c : List Int × List Int) : ((ccL c).length : Int) ≤ c.1.length + c.2.length + 2 ∧ (c.1 = [] → ((ccL c).length : Int) = c.2.length + 1) := by
  unfold ccL
  split
  · rename_i q
    rw [q]
    simp
  · rename_i q
    exact ⟨by simp; omega, fun h => absurd h q⟩
theorem giG_b {b : Int → Int} {n i j : Int} {t : List Int} (h0 : 0 ≤ i) (hj : i + 2 ≤ j) (hjn : j ≤ n) (ht : (t.length : Int) ≤ j - (i + 2)) : RcB n i (giG b n t j) := by
  have h2 := neS_b (b := b) (n := n) (c := 63) (i := j) (by decide) (by omega) hjn
  refine RcB.t (by omega) h2 fun q => ?_
  have h3 := h2.2.2 q
  have h4 := smK_b b n 6 (neS b n 63 j).2.1 (by omega) h3.2.1
  refine RcB.t (by omega) h4 fun q2 => ?_
  have h5 := h4.2.2 q2
  have h6 := ccL_len (t, (smK b n 6 (neS b n 63 j).2.1).2.2)
  exact ⟨by simp, by show (-1 : Int) ≤ n; omega, fun _ => by simp only at h6 ⊢; omega⟩
theorem clB_b {b : Int → Int} {n i j : Int} (h0 : 0 ≤ i) (hj : i + 2 ≤ j) (hjn : j ≤ n) : RcB n i (clB b n j) := by
  obtain ⟨s1, s2, -⟩ := skS_b b n j
  have s2 := s2 hjn
  unfold clB
  split
  · have h2 := coG_b (b := b) (n := n) (i := skS b n j) (unK_b b n 6) (by omega) (unK_b b n 6 (skS b n j) (by omega) s2)
    refine RcB.t (by omega) h2 fun q => ?_
    have h3 := h2.2.2 q
    exact giG_b h0 (by omega) h3.2.1 (by omega)
  · have h2 := smK_b b n 6 (skS b n j) (by omega) s2
    refine RcB.t (by omega) h2 fun q => ?_
    have h3 := h2.2.2 q
    obtain ⟨t1, t2, -⟩ := skS_b b n (smK b n 6 (skS b n j)).2.1
    have t2 := t2 h3.2.1
    split
    · have h4 := coG_b (b := b) (n := n) (i := skS b n (smK b n 6 (skS b n j)).2.1) (unK_b b n 6) (by omega) (cmG_b (b := b) (smK_b b n 6) _ (by omega) t2)
      refine RcB.t (by omega) h4 fun q2 => ?_
      have h5 := h4.2.2 q2
      exact giG_b h0 (by omega) h5.2.1 (by simp only [List.length_append]; omega)
    · have h6 := (ccL_len ([], (smK b n 6 (skS b n j)).2.2)).2 rfl
      exact ⟨by simp, by show (-1 : Int) ≤ n; omega, fun _ => by simp only at h6 ⊢; omega⟩
theorem clG_b {b : Int → Int} {n i : Int} (h0 : 0 ≤ i) (h1 : i ≤ n) : RcB n i (clG b n i) := by
  have h2 := neS_b (b := b) (n := n) (c := 107) (i := i) (by decide) h0 h1
  refine RcB.t (Int.le_refl _) h2 fun q => ?_
  have h3 := h2.2.2 q
  have h4 := neS_b (b := b) (n := n) (c := 58) (i := (neS b n 107 i).2.1) (by decide) (by omega) h3.2.1
  refine RcB.t (by omega) h4 fun q2 => ?_
  have h5 := h4.2.2 q2
  exact clB_b h0 (by omega) h5.2.1
/-- what is written behind place cl -/
def wrL (cf : Int → Int) (cl : Int) : List Int → Int → Int
  | [] => cf
  | t :: ts => wrL (fu cf cl t) (cl + 1) ts
theorem wrL_app (a : List Int) : ∀ (cf : Int → Int) (cl : Int) (c : List Int), wrL cf cl (a ++ c) = wrL (wrL cf cl a) (cl + a.length) c := by
  induction a with
  | nil => intro cf cl c; simp [wrL]
  | cons t ts ih =>
    intro cf cl c
    show wrL (fu cf cl t) (cl + 1) (ts ++ c) = _
    rw [ih]
    show wrL (wrL (fu cf cl t) (cl + 1) ts) _ c = wrL (wrL (fu cf cl t) (cl + 1) ts) _ c
    congr 1
    simp only [List.length_cons]
    omega
