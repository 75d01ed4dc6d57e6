theorem wrL_lo {cf : Int → Int} {c j : Int} (h : j < c) {t : List Int} : wrL cf c t j = cf j := by
  induction t generalizing cf c with
  | nil => rfl
  | cons v t ih =>
    show wrL (fu cf c v) (c + 1) t j = _
    rw [ih (by omega), fu_ne (by omega)]
/-! ===== what a rule's text is written down as: small numbers ===== -/
abbrev tkIn (x : Int) : Prop := -15 ≤ x ∧ x ≤ 9999
def TkP (r : RP) : Prop := ∀ x ∈ r.2.2, tkIn x
theorem TkP.f (f : Int) : TkP (rpF f) := fun x hx => by cases hx
theorem TkP.t {a : RP} {g : Int → List Int → RP} (hg : a.1 = -1 → TkP (g a.2.1 a.2.2)) : TkP (rpT a g) := by
  unfold rpT
  split
  · rename_i q; exact hg q
  · exact TkP.f _
theorem TkP.snoc {i j : Int} {t u : List Int} {o : Int} (h1 : ∀ x ∈ t, tkIn x) (h2 : ∀ x ∈ u, tkIn x) (h3 : tkIn o) : TkP ((i, j, t ++ u ++ [o]) : RP) := fun x hx => by
  rcases List.mem_append.mp hx with hx | hx
  · rcases List.mem_append.mp hx with hx | hx
    · exact h1 x hx
    · exact h2 x hx
  · rcases List.mem_cons.mp hx with rfl | hx
    · exact h3
    · cases hx
theorem TkP.snoc1 {i j : Int} {t : List Int} {o : Int} (h1 : ∀ x ∈ t, tkIn x) (h3 : tkIn o) : TkP ((i, j, t ++ [o]) : RP) := fun x hx => by
  rcases List.mem_append.mp hx with hx | hx
  · exact h1 x hx
  · rcases List.mem_cons.mp hx with rfl | hx
    · exact h3
    · cases hx
theorem brS_tk {b : Int → Int} {n c : Int} {a : RP} (h : TkP a) : TkP (brS b n c a) := TkP.t fun _ => TkP.t fun _ => h
theorem atG_tk {b : Int → Int} {n : Int} {sm : Option (Int → RP)} (hs : ∀ s, sm = some s → ∀ i, TkP (s i)) (i : Int) : TkP (atG b n sm i) := by
  unfold atG
  split
  · unfold diS
    split
    · exact TkP.f _
    · have h1 := dgN_v (b := b) (n := n) 4 (skS b n i) 0 (by omega)
      intro x hx
      rcases List.mem_cons.mp hx with rfl | hx
      · have e : (0 + 1 : Int) * 10 ^ 4 = 10000 := by decide
        rw [e] at h1
        exact ⟨by omega, by omega⟩
      · cases hx
  · split
    · cases sm with
      | none => exact TkP.f _
      | some s => exact brS_tk (hs s rfl _)
    · split
      · exact TkP.f _
      · intro x hx
        rcases List.mem_cons.mp hx with rfl | hx
        · have : -5 ≤ lcS (hrS b n (skS b n i)) ∧ lcS (hrS b n (skS b n i)) ≤ 0 := by
            unfold lcS
            repeat (first | omega | split)
          exact ⟨by omega, by omega⟩
        · cases hx
theorem lpO_tk {b : Int → Int} {n : Int} {P : Int → RP} {c1 o1 c2 o2 : Int} (hP : ∀ i, TkP (P i)) (h1 : tkIn o1) (h2 : tkIn o2) : ∀ (m : Nat) (r : RP), TkP r → TkP (lpO b n P c1 o1 c2 o2 m r)
  | 0, r, h => h
  | m + 1, r, h => by
    simp only [lpO]
    split
    · refine lpO_tk hP h1 h2 m _ (TkP.t fun _ => TkP.snoc h (hP _) ?_)
      split <;> assumption
    · exact h
theorem biG_tk {b : Int → Int} {n : Int} {P : Int → RP} {c1 o1 c2 o2 : Int} (hP : ∀ i, TkP (P i)) (h1 : tkIn o1) (h2 : tkIn o2) (i : Int) : TkP (biG b n P c1 o1 c2 o2 i) := lpO_tk hP h1 h2 _ _ (TkP.t fun _ => hP i)
theorem smK_tk (b : Int → Int) (n : Int) : ∀ (K : Nat) (i : Int), TkP (smK b n K i)
  | 0 => biG_tk (biG_tk (atG_tk fun s h => by cases h) (by decide) (by decide)) (by decide) (by decide)
  | K + 1 => biG_tk (biG_tk (atG_tk fun s h => by cases h; exact smK_tk b n K) (by decide) (by decide)) (by decide) (by decide)
theorem cmG_tk {b : Int → Int} {n : Int} {S : Int → RP} (hS : ∀ i, TkP (S i)) (i : Int) : TkP (cmG b n S i) := by
  unfold cmG
  split
  · refine TkP.t fun _ => TkP.snoc1 (hS _) ?_
    unfold coP
    repeat' split
    all_goals decide
  · exact TkP.f _
theorem lpT_tk {b : Int → Int} {n : Int} {P : Int → RP} {c o : Int} (hP : ∀ i, TkP (P i)) (h1 : tkIn o) : ∀ (m : Nat) (r : RP), TkP r → TkP (lpT b n P c o m r)
  | 0, r, h => h
  | m + 1, r, h => by
    simp only [lpT]
    split
    · split
      · exact lpT_tk hP h1 m _ (TkP.t fun _ => TkP.snoc h (hP _) h1)
      · exact h
    · exact h
theorem coG_tk {b : Int → Int} {n : Int} {U : Int → RP} {r : RP} (hU : ∀ i, TkP (U i)) (h : TkP r) : TkP (coG b n U r) := lpT_tk (fun i => lpT_tk hU (by decide) _ _ (hU i)) (by decide) _ _ (lpT_tk hU (by decide) _ _ h)
theorem unG_tk {b : Int → Int} {n : Int} {U : Option (Int → RP)} {S : Int → RP} (hU : ∀ u, U = some u → ∀ i, TkP (u i)) (hS : ∀ i, TkP (S i)) (i : Int) : TkP (unG b n U S i) := by
  unfold unG
  split
  · cases U with
    | none => exact TkP.f _
    | some u => exact TkP.t fun _ => TkP.snoc1 (hU u rfl _) (by decide)
  · split
    · cases U with
      | none => exact TkP.f _
      | some u => exact brS_tk (coG_tk (hU u rfl) (hU u rfl _))
    · refine TkP.t fun _ => TkP.t fun _ => fun x hx => ?_
      rcases List.mem_append.mp hx with hx | hx
      · exact hS _ x hx
      · exact cmG_tk hS _ x hx
theorem unK_tk (b : Int → Int) (n : Int) : ∀ (K : Nat) (i : Int), TkP (unK b n K i)
  | 0 => unG_tk (fun u h => by cases h) (smK_tk b n 0)
  | K + 1 => unG_tk (fun u h => by cases h; exact unK_tk b n K) (smK_tk b n (K + 1))
def TkC (c : List Int × List Int) : Prop := (∀ x ∈ c.1, tkIn x) ∧ ∀ x ∈ c.2, tkIn x
theorem rcT_tk {a : RP} {g : Int → List Int → RC} (hg : a.1 = -1 → TkC (g a.2.1 a.2.2).2.2) : TkC (rcT a g).2.2 := by
  unfold rcT
  split
  · rename_i q; exact hg q
  · exact ⟨fun x hx => (by cases hx), fun x hx => (by cases hx)⟩
theorem giG_tk {b : Int → Int} {n : Int} {t : List Int} (ht : ∀ x ∈ t, tkIn x) (j : Int) : TkC (giG b n t j).2.2 := rcT_tk fun _ => rcT_tk fun _ => ⟨ht, smK_tk b n 6 _⟩
theorem clG_tk (b : Int → Int) (n i : Int) : TkC (clG b n i).2.2 := by
  refine rcT_tk fun _ => rcT_tk fun _ => ?_
  unfold clB
  split
  · exact rcT_tk fun _ => giG_tk (coG_tk (unK_tk b n 6) (unK_tk b n 6 _)) _
  · refine rcT_tk fun _ => ?_
    split
    · refine rcT_tk fun _ => giG_tk (fun x hx => ?_) _
      rcases List.mem_append.mp hx with hx | hx
      · exact smK_tk b n 6 _ x hx
      · exact coG_tk (unK_tk b n 6) (cmG_tk (smK_tk b n 6) _) x hx
    · exact ⟨fun x hx => (by cases hx), smK_tk b n 6 _⟩
theorem cl2_tk {b : Int → Int} {n j : Int} {cs : Cls} (h : ∀ c ∈ cs, TkC c) : ∀ c ∈ (cl2 b n j cs).2.2, TkC c := by
  unfold cl2
  split
  · intro c hc
    rcases List.mem_append.mp hc with hc | hc
    · exact h c hc
    · rcases List.mem_cons.mp hc with rfl | hc
      · exact clG_tk b n j
      · cases hc
  · intro c hc; cases hc
theorem lpC_tk {b : Int → Int} {n : Int} : ∀ (m : Nat) (r : RU2), (∀ c ∈ r.2.2, TkC c) → ∀ c ∈ (lpC b n m r).2.2, TkC c
  | 0, r, h => h
  | m + 1, r, h => by
    by_cases q : r.1 = -1
    · by_cases q2 : hrS b n (skS b n r.2.1) = 59
      · rw [lpC_go q q2]; exact lpC_tk m _ (cl2_tk h)
      · rw [lpC_end q q2 _ (by omega)]; exact h
    · rw [lpC_bad q]; exact h
theorem ruR_tk (b : Int → Int) (n : Int) : ∀ c ∈ (ruR b n).2, TkC c := by
  unfold ruR
  split
  · intro c hc; cases hc
  · split
    · intro c hc; cases hc
    · show ∀ c ∈ (ruL b n).2.2, TkC c
      rw [← ruL_eq]
      exact lpC_tk _ _ (cl2_tk fun c hc => by cases hc)
theorem flC_in {cs : Cls} (h : ∀ c ∈ cs, TkC c) : ∀ x ∈ flC cs, inI x := fun x hx => by
  obtain ⟨c, hc, hx⟩ := List.mem_flatMap.mp hx
  have hq : tkIn x ∨ x = -16 ∨ x = -17 := by
    unfold ccL at hx
    split at hx
    · rcases List.mem_append.mp hx with hx | hx
      · exact Or.inl ((h c hc).2 x hx)
      · exact Or.inr (Or.inr (by simpa using hx))
    · rcases List.mem_append.mp hx with hx | hx
      · exact Or.inl ((h c hc).1 x hx)
      · rcases List.mem_cons.mp hx with hx | hx
        · exact Or.inr (Or.inl hx)
        · rcases List.mem_append.mp hx with hx | hx
          · exact Or.inl ((h c hc).2 x hx)
          · exact Or.inr (Or.inr (by simpa using hx))
  rcases hq with ⟨h1, h2⟩ | rfl | rfl
  · exact ⟨by omega, by omega⟩
  · exact ⟨by omega, by omega⟩
  · exact ⟨by omega, by omega⟩
/-- what was written, read back -/
theorem wrL_at {cf : Int → Int} : ∀ (t : List Int) (c j : Int), 0 ≤ c → c ≤ j → j < c + t.length → wrL cf c t j = t.getD (j - c).toNat 0 := by
  intro t
  induction t generalizing cf with
  | nil => intro c j h0 h1 h2; simp at h2; omega
  | cons v t ih =>
    intro c j h0 h1 h2
    show wrL (fu cf c v) (c + 1) t j = _
    by_cases e : j = c
    · subst e
      rw [wrL_lo (by omega), fu_same]
      simp
    · rw [ih (c + 1) j (by omega) (by omega) (by simp only [List.length_cons] at h2; omega), show (j - c).toNat = (j - (c + 1)).toNat + 1 by omega]
      rfl
