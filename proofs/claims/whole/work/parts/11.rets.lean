/-! ===== answers in a few forms ===== -/
abbrev pr (v : AV) (h' : AH) : Option AV → AH → Prop := fun r h2 => r = some v ∧ h2 = h'
abbrev pvd (h' : AH) : Option AV → AH → Prop := fun r h2 => r = none ∧ h2 = h'
abbrev pe (P : AV → AH → Prop) : Option AV → AH → Prop := fun r h2 => ∃ v, r = some v ∧ P v h2
abbrev pn (P : AH → Prop) : Option AV → AH → Prop := fun r h2 => r = none ∧ P h2
section Rets
variable {w : MC} {n1 n2 m1 m2 pc : Nat} {L : List (Option AV)} {st : List AV}
theorem ret1 {v : AV} {h' : AH} (kk : J w (n1 + m1) (n2 + m2) pc L (v :: st) h') : ∀ (r : Option AV) (h2 : AH), pr v h' r h2 → J w (n1 + m1) (n2 + m2) pc L (r.toList ++ st) h2 := by
  rintro r h2 ⟨rfl, rfl⟩
  exact kk
theorem ret0 {h' : AH} (kk : J w (n1 + m1) (n2 + m2) pc L st h') : ∀ (r : Option AV) (h2 : AH), pvd h' r h2 → J w (n1 + m1) (n2 + m2) pc L (r.toList ++ st) h2 := by
  rintro r h2 ⟨rfl, rfl⟩
  exact kk
theorem retE {P : AV → AH → Prop} (kk : ∀ v h', P v h' → J w (n1 + m1) (n2 + m2) pc L (v :: st) h') : ∀ (r : Option AV) (h2 : AH), pe P r h2 → J w (n1 + m1) (n2 + m2) pc L (r.toList ++ st) h2 := by
  rintro r h2 ⟨v, rfl, hp⟩
  exact kk v h2 hp
theorem retN {P : AH → Prop} (kk : ∀ h', P h' → J w (n1 + m1) (n2 + m2) pc L st h') : ∀ (r : Option AV) (h2 : AH), pn P r h2 → J w (n1 + m1) (n2 + m2) pc L (r.toList ++ st) h2 := by
  rintro r h2 ⟨rfl, hp⟩
  exact kk h2 hp
end Rets
