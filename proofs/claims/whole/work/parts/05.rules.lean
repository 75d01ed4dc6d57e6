/-! ===== the rules: an instruction a rule ===== -/
abbrev inI (a : Int) : Prop := -2147483648 ≤ a ∧ a ≤ 2147483647
abbrev inL (a : Int) : Prop := -9223372036854775808 ≤ a ∧ a ≤ 9223372036854775807
theorem i32_toInt {a : Int} (ha : inI a) : (Int32.ofInt a).toInt = a := Int32.toInt_ofInt_of_le (by have := ha.1; omega) (by have := ha.2; omega)
theorem i64_toInt {a : Int} (ha : inL a) : (Int64.ofInt a).toInt = a := Int64.toInt_ofInt_of_le (by have := ha.1; omega) (by have := ha.2; omega)
theorem i32_lt {a b : Int} (ha : inI a) (hb : inI b) : Int32.ofInt a < Int32.ofInt b ↔ a < b := by rw [Int32.lt_iff_toInt_lt, i32_toInt ha, i32_toInt hb]
theorem i32_le {a b : Int} (ha : inI a) (hb : inI b) : Int32.ofInt a ≤ Int32.ofInt b ↔ a ≤ b := by rw [Int32.le_iff_toInt_le, i32_toInt ha, i32_toInt hb]
theorem i32_eq {a b : Int} (ha : inI a) (hb : inI b) : Int32.ofInt a = Int32.ofInt b ↔ a = b := by rw [← Int32.toInt_inj, i32_toInt ha, i32_toInt hb]
theorem i64_lt {a b : Int} (ha : inL a) (hb : inL b) : Int64.ofInt a < Int64.ofInt b ↔ a < b := by rw [Int64.lt_iff_toInt_lt, i64_toInt ha, i64_toInt hb]
theorem i64_eq {a b : Int} (ha : inL a) (hb : inL b) : Int64.ofInt a = Int64.ofInt b ↔ a = b := by rw [← Int64.toInt_inj, i64_toInt ha, i64_toInt hb]
theorem i32_zero : (0 : Int32) = Int32.ofInt 0 := rfl
theorem i32_vpin {i : Int} {n : Nat} (h0 : 0 ≤ i) (h1 : i < n) (hn : n < 536870912) : vp_in (Int32.ofInt i) n := by
  have hi : inI i := ⟨by omega, by omega⟩
  intro h
  rcases h with h | h
  · rw [i32_zero, i32_lt hi ⟨by omega, by omega⟩] at h; omega
  · rw [Int32.toNatClampNeg, i32_toInt hi] at h; omega
theorem i32_nat {i : Int} (h0 : 0 ≤ i) (h1 : i < 536870912) : (Int32.ofInt i).toNatClampNeg = i.toNat := by
  rw [Int32.toNatClampNeg, i32_toInt ⟨by omega, by omega⟩]
def set1 : List (Option AV) → Nat → AV → List (Option AV)
  | [], _, _ => []
  | _ :: l, 0, v => some v :: l
  | some (.inr (.inl _)) :: l, 1, v => none :: set1 l 0 v
  | a :: l, 1, v => a :: set1 l 0 v
  | a :: l, n + 2, v => a :: set1 l (n + 1) v
def set2 : List (Option AV) → Nat → AV → List (Option AV)
  | _ :: _ :: l, 0, v => some v :: none :: l
  | some (.inr (.inl _)) :: l, 1, v => none :: set2 l 0 v
  | a :: l, 1, v => a :: set2 l 0 v
  | a :: l, n + 2, v => a :: set2 l (n + 1) v
  | l, _, _ => l
theorem set1_at : ∀ (L : List (Option AV)) (i : Nat) (v : AV) (j : Nat) (u : AV), (set1 L i v)[j]? = some (some u) → (j = i ∧ u = v) ∨ (j ≠ i ∧ L[j]? = some (some u) ∧ ¬ (j + 1 = i ∧ vcat u = 2))
  | [], i, v, j, u, h => by simp [set1] at h
  | a :: l, 0, v, 0, u, h => by simp [set1] at h; exact Or.inl ⟨rfl, h.symm⟩
  | a :: l, 0, v, j + 1, u, h => by simp [set1] at h; exact Or.inr ⟨by omega, by simpa using h, by omega⟩
  | a :: l, 1, v, 0, u, h => by
    refine Or.inr ⟨by omega, ?_⟩
    rcases a with _ | (x | x | x)
    · simp [set1] at h
    · simp [set1] at h; subst h; exact ⟨rfl, by simp [vcat]⟩
    · simp [set1] at h
    · simp [set1] at h; subst h; exact ⟨rfl, by simp [vcat]⟩
  | a :: l, 1, v, j + 1, u, h => by
    have h2 : (set1 l 0 v)[j]? = some (some u) := by
      rcases a with _ | (x | x | x) <;> simpa [set1] using h
    rcases set1_at l 0 v j u h2 with ⟨h1, h3⟩ | ⟨h1, h3, h4⟩
    · exact Or.inl ⟨by omega, h3⟩
    · exact Or.inr ⟨by omega, by simpa using h3, by omega⟩
  | a :: l, n + 2, v, 0, u, h => by
    simp [set1] at h
    exact Or.inr ⟨by omega, by simpa using h, by omega⟩
  | a :: l, n + 2, v, j + 1, u, h => by
    have h2 : (set1 l (n + 1) v)[j]? = some (some u) := by simpa [set1] using h
    rcases set1_at l (n + 1) v j u h2 with ⟨h1, h3⟩ | ⟨h1, h3, h4⟩
    · exact Or.inl ⟨by omega, h3⟩
    · exact Or.inr ⟨by omega, by simpa using h3, fun q => h4 ⟨by omega, q.2⟩⟩
theorem set1_len : ∀ (L : List (Option AV)) (i : Nat) (v : AV), (set1 L i v).length = L.length
  | [], i, v => by simp [set1]
  | a :: l, 0, v => by simp [set1]
  | a :: l, 1, v => by
    have := set1_len l 0 v
    rcases a with _ | (x | x | x) <;> simp [set1, this]
  | a :: l, n + 2, v => by simp [set1, set1_len l (n + 1) v]
theorem set2_at : ∀ (L : List (Option AV)) (i : Nat) (v : AV) (j : Nat) (u : AV), i + 1 < L.length → (set2 L i v)[j]? = some (some u) → (j = i ∧ u = v) ∨ (j ≠ i ∧ j ≠ i + 1 ∧ L[j]? = some (some u) ∧ ¬ (j + 1 = i ∧ vcat u = 2))
  | [], i, v, j, u, hi, h => by simp at hi
  | [_], i, v, j, u, hi, h => by simp at hi
  | a :: b :: l, 0, v, 0, u, hi, h => by simp [set2] at h; exact Or.inl ⟨rfl, h.symm⟩
  | a :: b :: l, 0, v, 1, u, hi, h => by simp [set2] at h
  | a :: b :: l, 0, v, j + 2, u, hi, h => by simp [set2] at h; exact Or.inr ⟨by omega, by omega, by simpa using h, by omega⟩
  | a :: b :: l, 1, v, 0, u, hi, h => by
    refine Or.inr ⟨by omega, by omega, ?_⟩
    rcases a with _ | (x | x | x)
    · simp [set2] at h
    · simp [set2] at h; subst h; exact ⟨rfl, by simp [vcat]⟩
    · simp [set2] at h
    · simp [set2] at h; subst h; exact ⟨rfl, by simp [vcat]⟩
  | a :: b :: l, 1, v, j + 1, u, hi, h => by
    have h2 : (set2 (b :: l) 0 v)[j]? = some (some u) := by
      rcases a with _ | (x | x | x) <;> simpa [set2] using h
    rcases set2_at (b :: l) 0 v j u (by simpa using hi) h2 with ⟨h1, h3⟩ | ⟨h1, h5, h3, h4⟩
    · exact Or.inl ⟨by omega, h3⟩
    · exact Or.inr ⟨by omega, by omega, by simpa using h3, by omega⟩
  | a :: b :: l, n + 2, v, 0, u, hi, h => by
    simp [set2] at h
    exact Or.inr ⟨by omega, by omega, by simpa using h, by omega⟩
  | a :: b :: l, n + 2, v, j + 1, u, hi, h => by
    have h2 : (set2 (b :: l) (n + 1) v)[j]? = some (some u) := by simpa [set2] using h
    rcases set2_at (b :: l) (n + 1) v j u (by simp at hi ⊢; omega) h2 with ⟨h1, h3⟩ | ⟨h1, h5, h3, h4⟩
    · exact Or.inl ⟨by omega, h3⟩
    · exact Or.inr ⟨by omega, by omega, by simpa using h3, fun q => h4 ⟨by omega, q.2⟩⟩
theorem set2_len : ∀ (L : List (Option AV)) (i : Nat) (v : AV), (set2 L i v).length = L.length
  | [], i, v => by cases i <;> simp [set2]
  | [a], 0, v => by simp [set2]
  | [a], 1, v => by rcases a with _ | (x | x | x) <;> simp [set2]
  | [a], n + 2, v => by simp [set2]
  | a :: b :: l, 0, v => by simp [set2]
  | a :: b :: l, 1, v => by
    have := set2_len (b :: l) 0 v
    rcases a with _ | (x | x | x) <;> simpa [set2] using this
  | a :: b :: l, n + 2, v => by simpa [set2] using set2_len (b :: l) (n + 1) v
def prs (ρ : Nm → Nat) (L : List (Option AV)) : List (Nat × Value) := (List.range L.length).filterMap (fun i => match L[i]? with | some (some v) => some (i, val ρ v) | _ => none)
theorem prs_mem {ρ : Nm → Nat} {L : List (Option AV)} {q : Nat × Value} : q ∈ prs ρ L ↔ ∃ (v : AV), L[q.1]? = some (some v) ∧ q.2 = val ρ v := by
  unfold prs
  rw [List.mem_filterMap]
  constructor
  · rintro ⟨i, hi, h⟩
    cases e : L[i]? with
    | none => simp [e] at h
    | some a =>
      cases a with
      | none => simp [e] at h
      | some v =>
        simp [e] at h
        subst h
        exact ⟨v, e, rfl⟩
  · rintro ⟨v, h1, h2⟩
    have hlt : q.1 < L.length := (List.getElem?_eq_some_iff.mp h1).1
    refine ⟨q.1, List.mem_range.mpr hlt, ?_⟩
    simp [h1, ← h2]
theorem LV.has {ρ : Nm → Nat} {ls : Array Slot} {L : List (Option AV)} (h : LV ρ ls L) : lv_has ls L.length (prs ρ L) := by
  refine ⟨h.1, h.2.1, fun q hq => ?_⟩
  obtain ⟨v, h1, h2⟩ := prs_mem.mp hq
  rw [h2]
  exact h.2.2 _ _ h1
theorem LV.of1 {ρ : Nm → Nat} {ls' : Array Slot} {L : List (Option AV)} {i : Nat} {v : AV} (h : lv_has ls' L.length ((i, val ρ v) :: (prs ρ L).filter (fun q => !(q.1 == i) && !(q.1 + 1 == i && q.2.category == 2)))) : LV ρ ls' (set1 L i v) := by
  refine ⟨by rw [set1_len]; exact h.1, h.2.1, fun j u hj => ?_⟩
  rcases set1_at L i v j u hj with ⟨h1, h2⟩ | ⟨h1, h2, h3⟩
  · subst h1; subst h2
    exact h.2.2 _ List.mem_cons_self
  · refine h.2.2 (j, val ρ u) (List.mem_cons_of_mem _ (List.mem_filter.mpr ⟨prs_mem.mpr ⟨u, h2, rfl⟩, ?_⟩))
    simp only [val_cat]
    simp [h1]
    exact (Classical.em (j + 1 = i)).elim (fun a => Or.inr fun b => h3 ⟨a, b⟩) Or.inl
theorem LV.of2 {ρ : Nm → Nat} {ls' : Array Slot} {L : List (Option AV)} {i : Nat} {v : AV} (hi : i + 1 < L.length) (h : lv_has ls' L.length ((i, val ρ v) :: (prs ρ L).filter (fun q => !(q.1 == i) && (!(q.1 == i + 1) && !(q.1 + 1 == i && q.2.category == 2))))) : LV ρ ls' (set2 L i v) := by
  refine ⟨by rw [set2_len]; exact h.1, h.2.1, fun j u hj => ?_⟩
  rcases set2_at L i v j u hi hj with ⟨h1, h2⟩ | ⟨h1, h5, h2, h3⟩
  · subst h1; subst h2
    exact h.2.2 _ List.mem_cons_self
  · refine h.2.2 (j, val ρ u) (List.mem_cons_of_mem _ (List.mem_filter.mpr ⟨prs_mem.mpr ⟨u, h2, rfl⟩, ?_⟩))
    simp only [val_cat]
    simp [h1, h5]
    exact (Classical.em (j + 1 = i)).elim (fun a => Or.inr fun b => h3 ⟨a, b⟩) Or.inl
theorem set1_cl {h : AH} {L : List (Option AV)} {i : Nat} {v : AV} (hL : ∀ v, some v ∈ L → Cl h v) (hv : Cl h v) : ∀ u, some u ∈ set1 L i v → Cl h u := fun u hu => by
  obtain ⟨j, hj⟩ := List.getElem?_of_mem hu
  rcases set1_at L i v j u hj with ⟨-, h2⟩ | ⟨-, h2, -⟩
  · subst h2; exact hv
  · exact hL u (List.mem_of_getElem? h2)
theorem set2_cl {h : AH} {L : List (Option AV)} {i : Nat} {v : AV} (hi : i + 1 < L.length) (hL : ∀ v, some v ∈ L → Cl h v) (hv : Cl h v) : ∀ u, some u ∈ set2 L i v → Cl h u := fun u hu => by
  obtain ⟨j, hj⟩ := List.getElem?_of_mem hu
  rcases set2_at L i v j u hi hj with ⟨-, h2⟩ | ⟨-, -, h2, -⟩
  · subst h2; exact hv
  · exact hL u (List.mem_of_getElem? h2)
section Rules
variable {w : MC} {k : WC} {d mc ms : Nat} {y : MD} {n1 n2 pc : Nat} {L : List (Option AV)} {st : List AV} {h : AH}

theorem j_iconst {n : Int} (hc : Cx w k d mc ms y) (hd : decode y.2.1 pc = .ok (.iconst n, 1)) (kk : J w n1 n2 (pc + 1) L (vI n :: st) h) : J w n1 n2 pc L st h := by
  obtain ⟨p, l, e, R, s, m, args, below, meth, c, Q, G, B, ρ0, h0⟩ := w
  obtain ⟨hx, hb, hml, hown, hts, hK, hlk, hBs, hnm, hfr, hlo, hce, hsl, hk, hret⟩ := hc
  intro ρ H locs ls hR hA hs hL hl hS
  exact lv_iconst hx hb hd rfl (kk ρ H locs ls hR hA (List.forall_mem_cons.mpr ⟨trivial, hs⟩) hL hl hS)
theorem j_bipush {n : Int} (hc : Cx w k d mc ms y) (hd : decode y.2.1 pc = .ok (.bipush n, 2)) (hv : (Int8.ofInt n).toInt32 = Int32.ofInt n) (kk : J w n1 n2 (pc + 2) L (vI n :: st) h) : J w n1 n2 pc L st h := by
  obtain ⟨p, l, e, R, s, m, args, below, meth, c, Q, G, B, ρ0, h0⟩ := w
  obtain ⟨hx, hb, hml, hown, hts, hK, hlk, hBs, hnm, hfr, hlo, hce, hsl, hk, hret⟩ := hc
  intro ρ H locs ls hR hA hs hL hl hS
  exact lv_bipush hx hb hd hv (kk ρ H locs ls hR hA (List.forall_mem_cons.mpr ⟨trivial, hs⟩) hL hl hS)
theorem j_sipush {n : Int} (hc : Cx w k d mc ms y) (hd : decode y.2.1 pc = .ok (.sipush n, 3)) (hv : (Int16.ofInt n).toInt32 = Int32.ofInt n) (kk : J w n1 n2 (pc + 3) L (vI n :: st) h) : J w n1 n2 pc L st h := by
  obtain ⟨p, l, e, R, s, m, args, below, meth, c, Q, G, B, ρ0, h0⟩ := w
  obtain ⟨hx, hb, hml, hown, hts, hK, hlk, hBs, hnm, hfr, hlo, hce, hsl, hk, hret⟩ := hc
  intro ρ H locs ls hR hA hs hL hl hS
  exact lv_sipush hx hb hd hv (kk ρ H locs ls hR hA (List.forall_mem_cons.mpr ⟨trivial, hs⟩) hL hl hS)
theorem j_lconst {n : Fin 2} {x : Int} (hc : Cx w k d mc ms y) (hd : decode y.2.1 pc = .ok (.lconst n, 1)) (hv : Int64.ofNat (n : Nat) = Int64.ofInt x) (kk : J w n1 n2 (pc + 1) L (vL x :: st) h) : J w n1 n2 pc L st h := by
  obtain ⟨p, l, e, R, s, m, args, below, meth, c, Q, G, B, ρ0, h0⟩ := w
  obtain ⟨hx, hb, hml, hown, hts, hK, hlk, hBs, hnm, hfr, hlo, hce, hsl, hk, hret⟩ := hc
  intro ρ H locs ls hR hA hs hL hl hS
  exact lv_lconst hx hb hd hv (kk ρ H locs ls hR hA (List.forall_mem_cons.mpr ⟨trivial, hs⟩) hL hl hS)
theorem j_null (hc : Cx w k d mc ms y) (hd : decode y.2.1 pc = .ok (.aconst_null, 1)) (kk : J w n1 n2 (pc + 1) L (vN :: st) h) : J w n1 n2 pc L st h := by
  obtain ⟨p, l, e, R, s, m, args, below, meth, c, Q, G, B, ρ0, h0⟩ := w
  obtain ⟨hx, hb, hml, hown, hts, hK, hlk, hBs, hnm, hfr, hlo, hce, hsl, hk, hret⟩ := hc
  intro ρ H locs ls hR hA hs hL hl hS
  exact lv_null hx hb hd (kk ρ H locs ls hR hA (List.forall_mem_cons.mpr ⟨trivial, hs⟩) hL hl hS)
theorem j_ldc {i : Nat} {x : Int} {v : Int32} (hc : Cx w k d mc ms y) (hd : decode y.2.1 pc = .ok (.ldc i, 2)) (hm : Cond.constant y.1.cls i v ∈ tb) (hv : v = Int32.ofInt x) (kk : J w n1 n2 (pc + 2) L (vI x :: st) h) : J w n1 n2 pc L st h := by
  obtain ⟨p, l, e, R, s, m, args, below, meth, c, Q, G, B, ρ0, h0⟩ := w
  obtain ⟨hx, hb, hml, hown, hts, hK, hlk, hBs, hnm, hfr, hlo, hce, hsl, hk, hret⟩ := hc
  intro ρ H locs ls hR hA hs hL hl hS
  subst hv
  exact lv_ldc hx hb hown (hts _ hm) hd (kk ρ H locs ls hR hA (List.forall_mem_cons.mpr ⟨trivial, hs⟩) hL hl hS)
theorem j_ldcw {i : Nat} {x : Int} {v : Int32} (hc : Cx w k d mc ms y) (hd : decode y.2.1 pc = .ok (.ldc_w i, 3)) (hm : Cond.constant y.1.cls i v ∈ tb) (hv : v = Int32.ofInt x) (kk : J w n1 n2 (pc + 3) L (vI x :: st) h) : J w n1 n2 pc L st h := by
  obtain ⟨p, l, e, R, s, m, args, below, meth, c, Q, G, B, ρ0, h0⟩ := w
  obtain ⟨hx, hb, hml, hown, hts, hK, hlk, hBs, hnm, hfr, hlo, hce, hsl, hk, hret⟩ := hc
  intro ρ H locs ls hR hA hs hL hl hS
  subst hv
  exact lv_ldcw hx hb hown (hts _ hm) hd (kk ρ H locs ls hR hA (List.forall_mem_cons.mpr ⟨trivial, hs⟩) hL hl hS)
theorem j_ldc2 {i : Nat} {x : Int} {v : Int64} (hc : Cx w k d mc ms y) (hd : decode y.2.1 pc = .ok (.ldc2_w i, 3)) (hm : Cond.constantLong y.1.cls i v ∈ tb) (hv : v = Int64.ofInt x) (kk : J w n1 n2 (pc + 3) L (vL x :: st) h) : J w n1 n2 pc L st h := by
  obtain ⟨p, l, e, R, s, m, args, below, meth, c, Q, G, B, ρ0, h0⟩ := w
  obtain ⟨hx, hb, hml, hown, hts, hK, hlk, hBs, hnm, hfr, hlo, hce, hsl, hk, hret⟩ := hc
  intro ρ H locs ls hR hA hs hL hl hS
  subst hv
  exact lv_ldc2 hx hb hown (hts _ hm) hd (kk ρ H locs ls hR hA (List.forall_mem_cons.mpr ⟨trivial, hs⟩) hL hl hS)
theorem j_iload {i : Nat} {x : Int} (hc : Cx w k d mc ms y) (hd : decode y.2.1 pc = .ok (.iload i, 2)) (hi : L[i]? = some (some (vI x))) (kk : J w n1 n2 (pc + 2) L (vI x :: st) h) : J w n1 n2 pc L st h := by
  obtain ⟨p, l, e, R, s, m, args, below, meth, c, Q, G, B, ρ0, h0⟩ := w
  obtain ⟨hx, hb, hml, hown, hts, hK, hlk, hBs, hnm, hfr, hlo, hce, hsl, hk, hret⟩ := hc
  intro ρ H locs ls hR hA hs hL hl hS
  exact lv_iload hx hb hd (hl.2.2 i _ hi) (kk ρ H locs ls hR hA (List.forall_mem_cons.mpr ⟨trivial, hs⟩) hL hl hS)
theorem j_iload_n {i : Fin 4} {x : Int} (hc : Cx w k d mc ms y) (hd : decode y.2.1 pc = .ok (.iload_n i, 1)) (hi : L[(i : Nat)]? = some (some (vI x))) (kk : J w n1 n2 (pc + 1) L (vI x :: st) h) : J w n1 n2 pc L st h := by
  obtain ⟨p, l, e, R, s, m, args, below, meth, c, Q, G, B, ρ0, h0⟩ := w
  obtain ⟨hx, hb, hml, hown, hts, hK, hlk, hBs, hnm, hfr, hlo, hce, hsl, hk, hret⟩ := hc
  intro ρ H locs ls hR hA hs hL hl hS
  exact lv_iload_n hx hb hd rfl (hl.2.2 i _ hi) (kk ρ H locs ls hR hA (List.forall_mem_cons.mpr ⟨trivial, hs⟩) hL hl hS)
theorem j_lload {i : Nat} {x : Int} (hc : Cx w k d mc ms y) (hd : decode y.2.1 pc = .ok (.lload i, 2)) (hi : L[i]? = some (some (vL x))) (kk : J w n1 n2 (pc + 2) L (vL x :: st) h) : J w n1 n2 pc L st h := by
  obtain ⟨p, l, e, R, s, m, args, below, meth, c, Q, G, B, ρ0, h0⟩ := w
  obtain ⟨hx, hb, hml, hown, hts, hK, hlk, hBs, hnm, hfr, hlo, hce, hsl, hk, hret⟩ := hc
  intro ρ H locs ls hR hA hs hL hl hS
  exact lv_lload hx hb hd (hl.2.2 i _ hi) (kk ρ H locs ls hR hA (List.forall_mem_cons.mpr ⟨trivial, hs⟩) hL hl hS)
theorem j_lload_n {i : Fin 4} {x : Int} (hc : Cx w k d mc ms y) (hd : decode y.2.1 pc = .ok (.lload_n i, 1)) (hi : L[(i : Nat)]? = some (some (vL x))) (kk : J w n1 n2 (pc + 1) L (vL x :: st) h) : J w n1 n2 pc L st h := by
  obtain ⟨p, l, e, R, s, m, args, below, meth, c, Q, G, B, ρ0, h0⟩ := w
  obtain ⟨hx, hb, hml, hown, hts, hK, hlk, hBs, hnm, hfr, hlo, hce, hsl, hk, hret⟩ := hc
  intro ρ H locs ls hR hA hs hL hl hS
  exact lv_lload_n hx hb hd rfl (hl.2.2 i _ hi) (kk ρ H locs ls hR hA (List.forall_mem_cons.mpr ⟨trivial, hs⟩) hL hl hS)
theorem j_aload {i : Nat} {x : Option Nm} (hc : Cx w k d mc ms y) (hd : decode y.2.1 pc = .ok (.aload i, 2)) (hi : L[i]? = some (some (vO x))) (kk : J w n1 n2 (pc + 2) L (vO x :: st) h) : J w n1 n2 pc L st h := by
  obtain ⟨p, l, e, R, s, m, args, below, meth, c, Q, G, B, ρ0, h0⟩ := w
  obtain ⟨hx, hb, hml, hown, hts, hK, hlk, hBs, hnm, hfr, hlo, hce, hsl, hk, hret⟩ := hc
  intro ρ H locs ls hR hA hs hL hl hS
  have K := kk ρ H locs ls hR hA (List.forall_mem_cons.mpr ⟨hL _ (List.mem_of_getElem? hi), hs⟩) hL hl hS
  cases x with
  | none => exact lv_aloadN hx hb hd (hl.2.2 i _ hi) K
  | some n => exact lv_aload hx hb hd (hl.2.2 i _ hi) K
theorem j_aload_n {i : Fin 4} {x : Option Nm} (hc : Cx w k d mc ms y) (hd : decode y.2.1 pc = .ok (.aload_n i, 1)) (hi : L[(i : Nat)]? = some (some (vO x))) (kk : J w n1 n2 (pc + 1) L (vO x :: st) h) : J w n1 n2 pc L st h := by
  obtain ⟨p, l, e, R, s, m, args, below, meth, c, Q, G, B, ρ0, h0⟩ := w
  obtain ⟨hx, hb, hml, hown, hts, hK, hlk, hBs, hnm, hfr, hlo, hce, hsl, hk, hret⟩ := hc
  intro ρ H locs ls hR hA hs hL hl hS
  have K := kk ρ H locs ls hR hA (List.forall_mem_cons.mpr ⟨hL _ (List.mem_of_getElem? hi), hs⟩) hL hl hS
  cases x with
  | none => exact lv_aload_nN hx hb hd rfl (hl.2.2 i _ hi) K
  | some n => exact lv_aload_n hx hb hd rfl (hl.2.2 i _ hi) K
theorem j_istore {i : Nat} {x : Int} {L' : List (Option AV)} (hc : Cx w k d mc ms y) (hd : decode y.2.1 pc = .ok (.istore i, 2)) (hi : i < L.length) (hL' : set1 L i (vI x) = L') (kk : J w n1 n2 (pc + 2) L' st h) : J w n1 n2 pc L (vI x :: st) h := by
  obtain ⟨p, l, e, R, s, m, args, below, meth, c, Q, G, B, ρ0, h0⟩ := w
  obtain ⟨hx, hb, hml, hown, hts, hK, hlk, hBs, hnm, hfr, hlo, hce, hsl, hk, hret⟩ := hc
  intro ρ H locs ls hR hA hs hL hl hS
  subst hL'
  exact lv_istore hx hb hd hl.has hi rfl (fun ls' hl' => kk ρ H locs ls' hR hA (fun v hv => hs v (List.mem_cons_of_mem _ hv)) (set1_cl hL trivial) (LV.of1 hl') hS)
theorem j_istore_n {i : Fin 4} {x : Int} {L' : List (Option AV)} (hc : Cx w k d mc ms y) (hd : decode y.2.1 pc = .ok (.istore_n i, 1)) (hi : (i : Nat) < L.length) (hL' : set1 L i (vI x) = L') (kk : J w n1 n2 (pc + 1) L' st h) : J w n1 n2 pc L (vI x :: st) h := by
  obtain ⟨p, l, e, R, s, m, args, below, meth, c, Q, G, B, ρ0, h0⟩ := w
  obtain ⟨hx, hb, hml, hown, hts, hK, hlk, hBs, hnm, hfr, hlo, hce, hsl, hk, hret⟩ := hc
  intro ρ H locs ls hR hA hs hL hl hS
  subst hL'
  exact lv_istore_n hx hb hd rfl hl.has hi rfl (fun ls' hl' => kk ρ H locs ls' hR hA (fun v hv => hs v (List.mem_cons_of_mem _ hv)) (set1_cl hL trivial) (LV.of1 hl') hS)
theorem j_lstore {i : Nat} {x : Int} {L' : List (Option AV)} (hc : Cx w k d mc ms y) (hd : decode y.2.1 pc = .ok (.lstore i, 2)) (hi : i + 1 < L.length) (hL' : set2 L i (vL x) = L') (kk : J w n1 n2 (pc + 2) L' st h) : J w n1 n2 pc L (vL x :: st) h := by
  obtain ⟨p, l, e, R, s, m, args, below, meth, c, Q, G, B, ρ0, h0⟩ := w
  obtain ⟨hx, hb, hml, hown, hts, hK, hlk, hBs, hnm, hfr, hlo, hce, hsl, hk, hret⟩ := hc
  intro ρ H locs ls hR hA hs hL hl hS
  subst hL'
  exact lv_lstore hx hb hd hl.has hi rfl (fun ls' hl' => kk ρ H locs ls' hR hA (fun v hv => hs v (List.mem_cons_of_mem _ hv)) (set2_cl hi hL trivial) (LV.of2 hi hl') hS)
theorem j_lstore_n {i : Fin 4} {x : Int} {L' : List (Option AV)} (hc : Cx w k d mc ms y) (hd : decode y.2.1 pc = .ok (.lstore_n i, 1)) (hi : (i : Nat) + 1 < L.length) (hL' : set2 L i (vL x) = L') (kk : J w n1 n2 (pc + 1) L' st h) : J w n1 n2 pc L (vL x :: st) h := by
  obtain ⟨p, l, e, R, s, m, args, below, meth, c, Q, G, B, ρ0, h0⟩ := w
  obtain ⟨hx, hb, hml, hown, hts, hK, hlk, hBs, hnm, hfr, hlo, hce, hsl, hk, hret⟩ := hc
  intro ρ H locs ls hR hA hs hL hl hS
  subst hL'
  exact lv_lstore_n hx hb hd rfl hl.has hi rfl (fun ls' hl' => kk ρ H locs ls' hR hA (fun v hv => hs v (List.mem_cons_of_mem _ hv)) (set2_cl hi hL trivial) (LV.of2 hi hl') hS)
theorem j_astore {i : Nat} {x : Option Nm} {L' : List (Option AV)} (hc : Cx w k d mc ms y) (hd : decode y.2.1 pc = .ok (.astore i, 2)) (hi : i < L.length) (hL' : set1 L i (vO x) = L') (kk : J w n1 n2 (pc + 2) L' st h) : J w n1 n2 pc L (vO x :: st) h := by
  obtain ⟨p, l, e, R, s, m, args, below, meth, c, Q, G, B, ρ0, h0⟩ := w
  obtain ⟨hx, hb, hml, hown, hts, hK, hlk, hBs, hnm, hfr, hlo, hce, hsl, hk, hret⟩ := hc
  intro ρ H locs ls hR hA hs hL hl hS
  subst hL'
  cases x with
  | none => exact lv_astoreN hx hb hd hl.has hi rfl (fun ls' hl' => kk ρ H locs ls' hR hA (fun v hv => hs v (List.mem_cons_of_mem _ hv)) (set1_cl hL trivial) (LV.of1 hl') hS)
  | some n => exact lv_astore hx hb hd hl.has hi rfl (fun ls' hl' => kk ρ H locs ls' hR hA (fun v hv => hs v (List.mem_cons_of_mem _ hv)) (set1_cl hL (hs _ List.mem_cons_self)) (LV.of1 hl') hS)
theorem j_astore_n {i : Fin 4} {x : Option Nm} {L' : List (Option AV)} (hc : Cx w k d mc ms y) (hd : decode y.2.1 pc = .ok (.astore_n i, 1)) (hi : (i : Nat) < L.length) (hL' : set1 L i (vO x) = L') (kk : J w n1 n2 (pc + 1) L' st h) : J w n1 n2 pc L (vO x :: st) h := by
  obtain ⟨p, l, e, R, s, m, args, below, meth, c, Q, G, B, ρ0, h0⟩ := w
  obtain ⟨hx, hb, hml, hown, hts, hK, hlk, hBs, hnm, hfr, hlo, hce, hsl, hk, hret⟩ := hc
  intro ρ H locs ls hR hA hs hL hl hS
  subst hL'
  cases x with
  | none => exact lv_astore_nN hx hb hd rfl hl.has hi rfl (fun ls' hl' => kk ρ H locs ls' hR hA (fun v hv => hs v (List.mem_cons_of_mem _ hv)) (set1_cl hL trivial) (LV.of1 hl') hS)
  | some n => exact lv_astore_n hx hb hd rfl hl.has hi rfl (fun ls' hl' => kk ρ H locs ls' hR hA (fun v hv => hs v (List.mem_cons_of_mem _ hv)) (set1_cl hL (hs _ List.mem_cons_self)) (LV.of1 hl') hS)
theorem j_iinc {i : Nat} {x n : Int} {L' : List (Option AV)} (hc : Cx w k d mc ms y) (hd : decode y.2.1 pc = .ok (.iinc i n, 3)) (hx0 : L[i]? = some (some (vI x))) (hi : i < L.length) (hL' : set1 L i (vI (x + n)) = L') (kk : J w n1 n2 (pc + 3) L' st h) : J w n1 n2 pc L st h := by
  obtain ⟨p, l, e, R, s, m, args, below, meth, c, Q, G, B, ρ0, h0⟩ := w
  obtain ⟨hx, hb, hml, hown, hts, hK, hlk, hBs, hnm, hfr, hlo, hce, hsl, hk, hret⟩ := hc
  intro ρ H locs ls hR hA hs hL hl hS
  subst hL'
  obtain ⟨j, hj⟩ := List.getElem?_of_mem (prs_mem.mpr ⟨vI x, hx0, rfl⟩ : (i, val ρ (vI x)) ∈ prs ρ L)
  exact lv_iinc hx hb hd hl.has hj (by rw [← Int32.ofInt_add]) hi rfl (fun ls' hl' => kk ρ H locs ls' hR hA hs (set1_cl hL trivial) (LV.of1 (v := vI (x + n)) hl') hS)
theorem j_iadd {a b : Int} (hc : Cx w k d mc ms y) (hd : decode y.2.1 pc = .ok (.iadd, 1)) (kk : J w n1 n2 (pc + 1) L (vI (a + b) :: st) h) : J w n1 n2 pc L (vI b :: vI a :: st) h := by
  obtain ⟨p, l, e, R, s, m, args, below, meth, c, Q, G, B, ρ0, h0⟩ := w
  obtain ⟨hx, hb, hml, hown, hts, hK, hlk, hBs, hnm, hfr, hlo, hce, hsl, hk, hret⟩ := hc
  intro ρ H locs ls hR hA hs hL hl hS
  have K := kk ρ H locs ls hR hA (List.forall_mem_cons.mpr ⟨trivial, fun v hv => hs v (List.mem_cons_of_mem _ (List.mem_cons_of_mem _ hv))⟩) hL hl hS
  refine lv_iadd hx hb hd ?_
  rw [← Int32.ofInt_add]
  exact K
theorem j_isub {a b : Int} (hc : Cx w k d mc ms y) (hd : decode y.2.1 pc = .ok (.isub, 1)) (kk : J w n1 n2 (pc + 1) L (vI (a - b) :: st) h) : J w n1 n2 pc L (vI b :: vI a :: st) h := by
  obtain ⟨p, l, e, R, s, m, args, below, meth, c, Q, G, B, ρ0, h0⟩ := w
  obtain ⟨hx, hb, hml, hown, hts, hK, hlk, hBs, hnm, hfr, hlo, hce, hsl, hk, hret⟩ := hc
  intro ρ H locs ls hR hA hs hL hl hS
  have K := kk ρ H locs ls hR hA (List.forall_mem_cons.mpr ⟨trivial, fun v hv => hs v (List.mem_cons_of_mem _ (List.mem_cons_of_mem _ hv))⟩) hL hl hS
  refine lv_isub hx hb hd ?_
  rw [← Int32.ofInt_sub]
  exact K
theorem j_imul {a b : Int} (hc : Cx w k d mc ms y) (hd : decode y.2.1 pc = .ok (.imul, 1)) (kk : J w n1 n2 (pc + 1) L (vI (a * b) :: st) h) : J w n1 n2 pc L (vI b :: vI a :: st) h := by
  obtain ⟨p, l, e, R, s, m, args, below, meth, c, Q, G, B, ρ0, h0⟩ := w
  obtain ⟨hx, hb, hml, hown, hts, hK, hlk, hBs, hnm, hfr, hlo, hce, hsl, hk, hret⟩ := hc
  intro ρ H locs ls hR hA hs hL hl hS
  have K := kk ρ H locs ls hR hA (List.forall_mem_cons.mpr ⟨trivial, fun v hv => hs v (List.mem_cons_of_mem _ (List.mem_cons_of_mem _ hv))⟩) hL hl hS
  refine lv_imul hx hb hd ?_
  rw [← Int32.ofInt_mul]
  exact K
theorem j_ladd {a b : Int} (hc : Cx w k d mc ms y) (hd : decode y.2.1 pc = .ok (.ladd, 1)) (kk : J w n1 n2 (pc + 1) L (vL (a + b) :: st) h) : J w n1 n2 pc L (vL b :: vL a :: st) h := by
  obtain ⟨p, l, e, R, s, m, args, below, meth, c, Q, G, B, ρ0, h0⟩ := w
  obtain ⟨hx, hb, hml, hown, hts, hK, hlk, hBs, hnm, hfr, hlo, hce, hsl, hk, hret⟩ := hc
  intro ρ H locs ls hR hA hs hL hl hS
  have K := kk ρ H locs ls hR hA (List.forall_mem_cons.mpr ⟨trivial, fun v hv => hs v (List.mem_cons_of_mem _ (List.mem_cons_of_mem _ hv))⟩) hL hl hS
  refine lv_ladd hx hb hd ?_
  rw [← Int64.ofInt_add]
  exact K
theorem j_lsub {a b : Int} (hc : Cx w k d mc ms y) (hd : decode y.2.1 pc = .ok (.lsub, 1)) (kk : J w n1 n2 (pc + 1) L (vL (a - b) :: st) h) : J w n1 n2 pc L (vL b :: vL a :: st) h := by
  obtain ⟨p, l, e, R, s, m, args, below, meth, c, Q, G, B, ρ0, h0⟩ := w
  obtain ⟨hx, hb, hml, hown, hts, hK, hlk, hBs, hnm, hfr, hlo, hce, hsl, hk, hret⟩ := hc
  intro ρ H locs ls hR hA hs hL hl hS
  have K := kk ρ H locs ls hR hA (List.forall_mem_cons.mpr ⟨trivial, fun v hv => hs v (List.mem_cons_of_mem _ (List.mem_cons_of_mem _ hv))⟩) hL hl hS
  refine lv_lsub hx hb hd ?_
  rw [← Int64.ofInt_sub]
  exact K
theorem j_lmul {a b : Int} (hc : Cx w k d mc ms y) (hd : decode y.2.1 pc = .ok (.lmul, 1)) (kk : J w n1 n2 (pc + 1) L (vL (a * b) :: st) h) : J w n1 n2 pc L (vL b :: vL a :: st) h := by
  obtain ⟨p, l, e, R, s, m, args, below, meth, c, Q, G, B, ρ0, h0⟩ := w
  obtain ⟨hx, hb, hml, hown, hts, hK, hlk, hBs, hnm, hfr, hlo, hce, hsl, hk, hret⟩ := hc
  intro ρ H locs ls hR hA hs hL hl hS
  have K := kk ρ H locs ls hR hA (List.forall_mem_cons.mpr ⟨trivial, fun v hv => hs v (List.mem_cons_of_mem _ (List.mem_cons_of_mem _ hv))⟩) hL hl hS
  refine lv_lmul hx hb hd ?_
  rw [← Int64.ofInt_mul]
  exact K
theorem j_ineg {a : Int} (hc : Cx w k d mc ms y) (hd : decode y.2.1 pc = .ok (.ineg, 1)) (kk : J w n1 n2 (pc + 1) L (vI (-a) :: st) h) : J w n1 n2 pc L (vI a :: st) h := by
  obtain ⟨p, l, e, R, s, m, args, below, meth, c, Q, G, B, ρ0, h0⟩ := w
  obtain ⟨hx, hb, hml, hown, hts, hK, hlk, hBs, hnm, hfr, hlo, hce, hsl, hk, hret⟩ := hc
  intro ρ H locs ls hR hA hs hL hl hS
  have K := kk ρ H locs ls hR hA (List.forall_mem_cons.mpr ⟨trivial, fun v hv => hs v (List.mem_cons_of_mem _ hv)⟩) hL hl hS
  refine lv_ineg hx hb hd ?_
  rw [← Int32.ofInt_neg]
  exact K
theorem j_idiv {a b : Int} (hc : Cx w k d mc ms y) (hd : decode y.2.1 pc = .ok (.idiv, 1)) (ha : inI a) (hb0 : inI b) (hne : b ≠ 0) (kk : J w n1 n2 (pc + 1) L (vI (a.tdiv b) :: st) h) : J w n1 n2 pc L (vI b :: vI a :: st) h := by
  obtain ⟨p, l, e, R, s, m, args, below, meth, c, Q, G, B, ρ0, h0⟩ := w
  obtain ⟨hx, hb, hml, hown, hts, hK, hlk, hBs, hnm, hfr, hlo, hce, hsl, hk, hret⟩ := hc
  intro ρ H locs ls hR hA hs hL hl hS
  have K := kk ρ H locs ls hR hA (List.forall_mem_cons.mpr ⟨trivial, fun v hv => hs v (List.mem_cons_of_mem _ (List.mem_cons_of_mem _ hv))⟩) hL hl hS
  refine lv_idiv hx hb hd (fun e => hne ?_) ?_
  · rw [i32_zero] at e; exact (i32_eq hb0 ⟨by omega, by omega⟩).mp e
  rw [← Int32.ofInt_tdiv ha.1 ha.2 hb0.1 hb0.2]
  exact K
theorem j_irem {a b : Int} (hc : Cx w k d mc ms y) (hd : decode y.2.1 pc = .ok (.irem, 1)) (ha : inI a) (hb0 : inI b) (hne : b ≠ 0) (kk : J w n1 n2 (pc + 1) L (vI (a - a.tdiv b * b) :: st) h) : J w n1 n2 pc L (vI b :: vI a :: st) h := by
  obtain ⟨p, l, e, R, s, m, args, below, meth, c, Q, G, B, ρ0, h0⟩ := w
  obtain ⟨hx, hb, hml, hown, hts, hK, hlk, hBs, hnm, hfr, hlo, hce, hsl, hk, hret⟩ := hc
  intro ρ H locs ls hR hA hs hL hl hS
  have K := kk ρ H locs ls hR hA (List.forall_mem_cons.mpr ⟨trivial, fun v hv => hs v (List.mem_cons_of_mem _ (List.mem_cons_of_mem _ hv))⟩) hL hl hS
  refine lv_irem hx hb hd (fun e => hne ?_) ?_
  · rw [i32_zero] at e; exact (i32_eq hb0 ⟨by omega, by omega⟩).mp e
  rw [← Int32.ofInt_tdiv ha.1 ha.2 hb0.1 hb0.2, ← Int32.ofInt_mul, ← Int32.ofInt_sub]
  exact K
theorem j_ldiv {a b : Int} (hc : Cx w k d mc ms y) (hd : decode y.2.1 pc = .ok (.ldiv, 1)) (ha : inL a) (hb0 : inL b) (hne : b ≠ 0) (kk : J w n1 n2 (pc + 1) L (vL (a.tdiv b) :: st) h) : J w n1 n2 pc L (vL b :: vL a :: st) h := by
  obtain ⟨p, l, e, R, s, m, args, below, meth, c, Q, G, B, ρ0, h0⟩ := w
  obtain ⟨hx, hb, hml, hown, hts, hK, hlk, hBs, hnm, hfr, hlo, hce, hsl, hk, hret⟩ := hc
  intro ρ H locs ls hR hA hs hL hl hS
  have K := kk ρ H locs ls hR hA (List.forall_mem_cons.mpr ⟨trivial, fun v hv => hs v (List.mem_cons_of_mem _ (List.mem_cons_of_mem _ hv))⟩) hL hl hS
  refine lv_ldiv hx hb hd (fun e => hne ?_) ?_
  · exact (i64_eq hb0 ⟨by omega, by omega⟩).mp (e.trans (rfl : (0 : Int64) = Int64.ofInt 0))
  rw [← Int64.ofInt_tdiv ha.1 ha.2 hb0.1 hb0.2]
  exact K
theorem j_iand {a b r : Int} (hc : Cx w k d mc ms y) (hd : decode y.2.1 pc = .ok (.iand, 1)) (hr : Int32.ofInt a &&& Int32.ofInt b = Int32.ofInt r) (kk : J w n1 n2 (pc + 1) L (vI r :: st) h) : J w n1 n2 pc L (vI b :: vI a :: st) h := by
  obtain ⟨p, l, e, R, s, m, args, below, meth, c, Q, G, B, ρ0, h0⟩ := w
  obtain ⟨hx, hb, hml, hown, hts, hK, hlk, hBs, hnm, hfr, hlo, hce, hsl, hk, hret⟩ := hc
  intro ρ H locs ls hR hA hs hL hl hS
  have K := kk ρ H locs ls hR hA (List.forall_mem_cons.mpr ⟨trivial, fun v hv => hs v (List.mem_cons_of_mem _ (List.mem_cons_of_mem _ hv))⟩) hL hl hS
  refine lv_iand hx hb hd ?_
  rw [hr]
  exact K
theorem j_ishr {a b r : Int} (hc : Cx w k d mc ms y) (hd : decode y.2.1 pc = .ok (.ishr, 1)) (hr : Int32.ofInt a >>> (Int32.ofInt b &&& 31) = Int32.ofInt r) (kk : J w n1 n2 (pc + 1) L (vI r :: st) h) : J w n1 n2 pc L (vI b :: vI a :: st) h := by
  obtain ⟨p, l, e, R, s, m, args, below, meth, c, Q, G, B, ρ0, h0⟩ := w
  obtain ⟨hx, hb, hml, hown, hts, hK, hlk, hBs, hnm, hfr, hlo, hce, hsl, hk, hret⟩ := hc
  intro ρ H locs ls hR hA hs hL hl hS
  have K := kk ρ H locs ls hR hA (List.forall_mem_cons.mpr ⟨trivial, fun v hv => hs v (List.mem_cons_of_mem _ (List.mem_cons_of_mem _ hv))⟩) hL hl hS
  refine lv_ishr hx hb hd ?_
  rw [hr]
  exact K
theorem j_iushr {a b r : Int} (hc : Cx w k d mc ms y) (hd : decode y.2.1 pc = .ok (.iushr, 1)) (hr : ((Int32.ofInt a).toUInt32 >>> ((Int32.ofInt b).toUInt32 &&& Int32.toUInt32 31)).toInt32 = Int32.ofInt r) (kk : J w n1 n2 (pc + 1) L (vI r :: st) h) : J w n1 n2 pc L (vI b :: vI a :: st) h := by
  obtain ⟨p, l, e, R, s, m, args, below, meth, c, Q, G, B, ρ0, h0⟩ := w
  obtain ⟨hx, hb, hml, hown, hts, hK, hlk, hBs, hnm, hfr, hlo, hce, hsl, hk, hret⟩ := hc
  intro ρ H locs ls hR hA hs hL hl hS
  have K := kk ρ H locs ls hR hA (List.forall_mem_cons.mpr ⟨trivial, fun v hv => hs v (List.mem_cons_of_mem _ (List.mem_cons_of_mem _ hv))⟩) hL hl hS
  exact lv_iushr hx hb hd hr K
theorem j_i2l {a : Int} (hc : Cx w k d mc ms y) (hd : decode y.2.1 pc = .ok (.i2l, 1)) (ha : inI a) (kk : J w n1 n2 (pc + 1) L (vL a :: st) h) : J w n1 n2 pc L (vI a :: st) h := by
  obtain ⟨p, l, e, R, s, m, args, below, meth, c, Q, G, B, ρ0, h0⟩ := w
  obtain ⟨hx, hb, hml, hown, hts, hK, hlk, hBs, hnm, hfr, hlo, hce, hsl, hk, hret⟩ := hc
  intro ρ H locs ls hR hA hs hL hl hS
  have K := kk ρ H locs ls hR hA (List.forall_mem_cons.mpr ⟨trivial, fun v hv => hs v (List.mem_cons_of_mem _ hv)⟩) hL hl hS
  exact lv_i2l hx hb hd (Int32.toInt64_ofInt ha.1 ha.2) K
theorem j_l2i {a : Int} (hc : Cx w k d mc ms y) (hd : decode y.2.1 pc = .ok (.l2i, 1)) (kk : J w n1 n2 (pc + 1) L (vI a :: st) h) : J w n1 n2 pc L (vL a :: st) h := by
  obtain ⟨p, l, e, R, s, m, args, below, meth, c, Q, G, B, ρ0, h0⟩ := w
  obtain ⟨hx, hb, hml, hown, hts, hK, hlk, hBs, hnm, hfr, hlo, hce, hsl, hk, hret⟩ := hc
  intro ρ H locs ls hR hA hs hL hl hS
  have K := kk ρ H locs ls hR hA (List.forall_mem_cons.mpr ⟨trivial, fun v hv => hs v (List.mem_cons_of_mem _ hv)⟩) hL hl hS
  exact lv_l2i hx hb hd Int64.toInt32_ofInt K
theorem j_dup {a : AV} (hc : Cx w k d mc ms y) (hd : decode y.2.1 pc = .ok (.dup, 1)) (hv : vcat a = 1) (kk : J w n1 n2 (pc + 1) L (a :: a :: st) h) : J w n1 n2 pc L (a :: st) h := by
  obtain ⟨p, l, e, R, s, m, args, below, meth, c, Q, G, B, ρ0, h0⟩ := w
  obtain ⟨hx, hb, hml, hown, hts, hK, hlk, hBs, hnm, hfr, hlo, hce, hsl, hk, hret⟩ := hc
  intro ρ H locs ls hR hA hs hL hl hS
  exact lv_dup hx hb hd (by rw [val_cat]; exact hv) (kk ρ H locs ls hR hA (List.forall_mem_cons.mpr ⟨hs _ List.mem_cons_self, hs⟩) hL hl hS)
theorem j_pop {a : AV} (hc : Cx w k d mc ms y) (hd : decode y.2.1 pc = .ok (.pop, 1)) (hv : vcat a = 1) (kk : J w n1 n2 (pc + 1) L st h) : J w n1 n2 pc L (a :: st) h := by
  obtain ⟨p, l, e, R, s, m, args, below, meth, c, Q, G, B, ρ0, h0⟩ := w
  obtain ⟨hx, hb, hml, hown, hts, hK, hlk, hBs, hnm, hfr, hlo, hce, hsl, hk, hret⟩ := hc
  intro ρ H locs ls hR hA hs hL hl hS
  exact lv_pop hx hb hd (by rw [val_cat]; exact hv) (kk ρ H locs ls hR hA (fun v hv => hs v (List.mem_cons_of_mem _ hv)) hL hl hS)
theorem j_dup2 {a b : AV} (hc : Cx w k d mc ms y) (hd : decode y.2.1 pc = .ok (.dup2, 1)) (ha : vcat a = 1) (hb1 : vcat b = 1) (kk : J w n1 n2 (pc + 1) L (a :: b :: a :: b :: st) h) : J w n1 n2 pc L (a :: b :: st) h := by
  obtain ⟨p, l, e, R, s, m, args, below, meth, c, Q, G, B, ρ0, h0⟩ := w
  obtain ⟨hx, hb, hml, hown, hts, hK, hlk, hBs, hnm, hfr, hlo, hce, hsl, hk, hret⟩ := hc
  intro ρ H locs ls hR hA hs hL hl hS
  exact lv_dup2_11 hx hb hd (by rw [val_cat]; exact ha) (by rw [val_cat]; exact hb1) (kk ρ H locs ls hR hA (List.forall_mem_cons.mpr ⟨hs _ List.mem_cons_self, List.forall_mem_cons.mpr ⟨hs _ (List.mem_cons_of_mem _ List.mem_cons_self), hs⟩⟩) hL hl hS)
theorem j_icmp_eq {a b : Int} {off : Int} {tgt : Nat} (hc : Cx w k d mc ms y) (hd : decode y.2.1 pc = .ok (.if_icmp .eq off, 3)) (ht : (pc : Int) + off = (tgt : Int)) (ha : inI a) (hb0 : inI b) (kt : a = b → J w n1 n2 tgt L st h) (kf : ¬ (a = b) → J w n1 n2 (pc + 3) L st h) : J w n1 n2 pc L (vI b :: vI a :: st) h := by
  obtain ⟨p, l, e, R, s, m, args, below, meth, c, Q, G, B, ρ0, h0⟩ := w
  obtain ⟨hx, hb, hml, hown, hts, hK, hlk, hBs, hnm, hfr, hlo, hce, hsl, hk, hret⟩ := hc
  intro ρ H locs ls hR hA hs hL hl hS
  exact lv_icmp_eq hx hb hd ht (fun q => kt ((i32_eq ha hb0).mp q) ρ H locs ls hR hA (fun v hv => hs v (List.mem_cons_of_mem _ (List.mem_cons_of_mem _ hv))) hL hl hS) (fun q => kf (fun z => q ((i32_eq ha hb0).mpr z)) ρ H locs ls hR hA (fun v hv => hs v (List.mem_cons_of_mem _ (List.mem_cons_of_mem _ hv))) hL hl hS)
theorem j_icmp_ne {a b : Int} {off : Int} {tgt : Nat} (hc : Cx w k d mc ms y) (hd : decode y.2.1 pc = .ok (.if_icmp .ne off, 3)) (ht : (pc : Int) + off = (tgt : Int)) (ha : inI a) (hb0 : inI b) (kt : ¬ (a = b) → J w n1 n2 tgt L st h) (kf : a = b → J w n1 n2 (pc + 3) L st h) : J w n1 n2 pc L (vI b :: vI a :: st) h := by
  obtain ⟨p, l, e, R, s, m, args, below, meth, c, Q, G, B, ρ0, h0⟩ := w
  obtain ⟨hx, hb, hml, hown, hts, hK, hlk, hBs, hnm, hfr, hlo, hce, hsl, hk, hret⟩ := hc
  intro ρ H locs ls hR hA hs hL hl hS
  exact lv_icmp_ne hx hb hd ht (fun q => kt (fun z => q ((i32_eq ha hb0).mpr z)) ρ H locs ls hR hA (fun v hv => hs v (List.mem_cons_of_mem _ (List.mem_cons_of_mem _ hv))) hL hl hS) (fun q => kf ((i32_eq ha hb0).mp q) ρ H locs ls hR hA (fun v hv => hs v (List.mem_cons_of_mem _ (List.mem_cons_of_mem _ hv))) hL hl hS)
theorem j_icmp_lt {a b : Int} {off : Int} {tgt : Nat} (hc : Cx w k d mc ms y) (hd : decode y.2.1 pc = .ok (.if_icmp .lt off, 3)) (ht : (pc : Int) + off = (tgt : Int)) (ha : inI a) (hb0 : inI b) (kt : a < b → J w n1 n2 tgt L st h) (kf : ¬ (a < b) → J w n1 n2 (pc + 3) L st h) : J w n1 n2 pc L (vI b :: vI a :: st) h := by
  obtain ⟨p, l, e, R, s, m, args, below, meth, c, Q, G, B, ρ0, h0⟩ := w
  obtain ⟨hx, hb, hml, hown, hts, hK, hlk, hBs, hnm, hfr, hlo, hce, hsl, hk, hret⟩ := hc
  intro ρ H locs ls hR hA hs hL hl hS
  exact lv_icmp_lt hx hb hd ht (fun q => kt ((i32_lt ha hb0).mp q) ρ H locs ls hR hA (fun v hv => hs v (List.mem_cons_of_mem _ (List.mem_cons_of_mem _ hv))) hL hl hS) (fun q => kf (fun z => q ((i32_lt ha hb0).mpr z)) ρ H locs ls hR hA (fun v hv => hs v (List.mem_cons_of_mem _ (List.mem_cons_of_mem _ hv))) hL hl hS)
theorem j_icmp_ge {a b : Int} {off : Int} {tgt : Nat} (hc : Cx w k d mc ms y) (hd : decode y.2.1 pc = .ok (.if_icmp .ge off, 3)) (ht : (pc : Int) + off = (tgt : Int)) (ha : inI a) (hb0 : inI b) (kt : a ≥ b → J w n1 n2 tgt L st h) (kf : ¬ (a ≥ b) → J w n1 n2 (pc + 3) L st h) : J w n1 n2 pc L (vI b :: vI a :: st) h := by
  obtain ⟨p, l, e, R, s, m, args, below, meth, c, Q, G, B, ρ0, h0⟩ := w
  obtain ⟨hx, hb, hml, hown, hts, hK, hlk, hBs, hnm, hfr, hlo, hce, hsl, hk, hret⟩ := hc
  intro ρ H locs ls hR hA hs hL hl hS
  exact lv_icmp_ge hx hb hd ht (fun q => kt ((i32_le hb0 ha).mp q) ρ H locs ls hR hA (fun v hv => hs v (List.mem_cons_of_mem _ (List.mem_cons_of_mem _ hv))) hL hl hS) (fun q => kf (fun z => q ((i32_le hb0 ha).mpr z)) ρ H locs ls hR hA (fun v hv => hs v (List.mem_cons_of_mem _ (List.mem_cons_of_mem _ hv))) hL hl hS)
theorem j_icmp_gt {a b : Int} {off : Int} {tgt : Nat} (hc : Cx w k d mc ms y) (hd : decode y.2.1 pc = .ok (.if_icmp .gt off, 3)) (ht : (pc : Int) + off = (tgt : Int)) (ha : inI a) (hb0 : inI b) (kt : a > b → J w n1 n2 tgt L st h) (kf : ¬ (a > b) → J w n1 n2 (pc + 3) L st h) : J w n1 n2 pc L (vI b :: vI a :: st) h := by
  obtain ⟨p, l, e, R, s, m, args, below, meth, c, Q, G, B, ρ0, h0⟩ := w
  obtain ⟨hx, hb, hml, hown, hts, hK, hlk, hBs, hnm, hfr, hlo, hce, hsl, hk, hret⟩ := hc
  intro ρ H locs ls hR hA hs hL hl hS
  exact lv_icmp_gt hx hb hd ht (fun q => kt ((i32_lt hb0 ha).mp q) ρ H locs ls hR hA (fun v hv => hs v (List.mem_cons_of_mem _ (List.mem_cons_of_mem _ hv))) hL hl hS) (fun q => kf (fun z => q ((i32_lt hb0 ha).mpr z)) ρ H locs ls hR hA (fun v hv => hs v (List.mem_cons_of_mem _ (List.mem_cons_of_mem _ hv))) hL hl hS)
theorem j_icmp_le {a b : Int} {off : Int} {tgt : Nat} (hc : Cx w k d mc ms y) (hd : decode y.2.1 pc = .ok (.if_icmp .le off, 3)) (ht : (pc : Int) + off = (tgt : Int)) (ha : inI a) (hb0 : inI b) (kt : a ≤ b → J w n1 n2 tgt L st h) (kf : ¬ (a ≤ b) → J w n1 n2 (pc + 3) L st h) : J w n1 n2 pc L (vI b :: vI a :: st) h := by
  obtain ⟨p, l, e, R, s, m, args, below, meth, c, Q, G, B, ρ0, h0⟩ := w
  obtain ⟨hx, hb, hml, hown, hts, hK, hlk, hBs, hnm, hfr, hlo, hce, hsl, hk, hret⟩ := hc
  intro ρ H locs ls hR hA hs hL hl hS
  exact lv_icmp_le hx hb hd ht (fun q => kt ((i32_le ha hb0).mp q) ρ H locs ls hR hA (fun v hv => hs v (List.mem_cons_of_mem _ (List.mem_cons_of_mem _ hv))) hL hl hS) (fun q => kf (fun z => q ((i32_le ha hb0).mpr z)) ρ H locs ls hR hA (fun v hv => hs v (List.mem_cons_of_mem _ (List.mem_cons_of_mem _ hv))) hL hl hS)
theorem j_if_eq {a b : Int} {off : Int} {tgt : Nat} (hc : Cx w k d mc ms y) (hd : decode y.2.1 pc = .ok (.ifCond .eq off, 3)) (ht : (pc : Int) + off = (tgt : Int)) (ha : inI a) (kt : a = 0 → J w n1 n2 tgt L st h) (kf : ¬ (a = 0) → J w n1 n2 (pc + 3) L st h) : J w n1 n2 pc L (vI a :: st) h := by
  obtain ⟨p, l, e, R, s, m, args, below, meth, c, Q, G, B, ρ0, h0⟩ := w
  obtain ⟨hx, hb, hml, hown, hts, hK, hlk, hBs, hnm, hfr, hlo, hce, hsl, hk, hret⟩ := hc
  intro ρ H locs ls hR hA hs hL hl hS
  exact lv_if_eq hx hb hd ht (fun q => kt ((i32_eq ha ⟨by omega, by omega⟩).mp q) ρ H locs ls hR hA (fun v hv => hs v (List.mem_cons_of_mem _ hv)) hL hl hS) (fun q => kf (fun z => q ((i32_eq ha ⟨by omega, by omega⟩).mpr z)) ρ H locs ls hR hA (fun v hv => hs v (List.mem_cons_of_mem _ hv)) hL hl hS)
theorem j_if_ne {a b : Int} {off : Int} {tgt : Nat} (hc : Cx w k d mc ms y) (hd : decode y.2.1 pc = .ok (.ifCond .ne off, 3)) (ht : (pc : Int) + off = (tgt : Int)) (ha : inI a) (kt : ¬ (a = 0) → J w n1 n2 tgt L st h) (kf : a = 0 → J w n1 n2 (pc + 3) L st h) : J w n1 n2 pc L (vI a :: st) h := by
  obtain ⟨p, l, e, R, s, m, args, below, meth, c, Q, G, B, ρ0, h0⟩ := w
  obtain ⟨hx, hb, hml, hown, hts, hK, hlk, hBs, hnm, hfr, hlo, hce, hsl, hk, hret⟩ := hc
  intro ρ H locs ls hR hA hs hL hl hS
  exact lv_if_ne hx hb hd ht (fun q => kt (fun z => q ((i32_eq ha ⟨by omega, by omega⟩).mpr z)) ρ H locs ls hR hA (fun v hv => hs v (List.mem_cons_of_mem _ hv)) hL hl hS) (fun q => kf ((i32_eq ha ⟨by omega, by omega⟩).mp q) ρ H locs ls hR hA (fun v hv => hs v (List.mem_cons_of_mem _ hv)) hL hl hS)
theorem j_if_lt {a b : Int} {off : Int} {tgt : Nat} (hc : Cx w k d mc ms y) (hd : decode y.2.1 pc = .ok (.ifCond .lt off, 3)) (ht : (pc : Int) + off = (tgt : Int)) (ha : inI a) (kt : a < 0 → J w n1 n2 tgt L st h) (kf : ¬ (a < 0) → J w n1 n2 (pc + 3) L st h) : J w n1 n2 pc L (vI a :: st) h := by
  obtain ⟨p, l, e, R, s, m, args, below, meth, c, Q, G, B, ρ0, h0⟩ := w
  obtain ⟨hx, hb, hml, hown, hts, hK, hlk, hBs, hnm, hfr, hlo, hce, hsl, hk, hret⟩ := hc
  intro ρ H locs ls hR hA hs hL hl hS
  exact lv_if_lt hx hb hd ht (fun q => kt ((i32_lt ha ⟨by omega, by omega⟩).mp q) ρ H locs ls hR hA (fun v hv => hs v (List.mem_cons_of_mem _ hv)) hL hl hS) (fun q => kf (fun z => q ((i32_lt ha ⟨by omega, by omega⟩).mpr z)) ρ H locs ls hR hA (fun v hv => hs v (List.mem_cons_of_mem _ hv)) hL hl hS)
theorem j_if_ge {a b : Int} {off : Int} {tgt : Nat} (hc : Cx w k d mc ms y) (hd : decode y.2.1 pc = .ok (.ifCond .ge off, 3)) (ht : (pc : Int) + off = (tgt : Int)) (ha : inI a) (kt : a ≥ 0 → J w n1 n2 tgt L st h) (kf : ¬ (a ≥ 0) → J w n1 n2 (pc + 3) L st h) : J w n1 n2 pc L (vI a :: st) h := by
  obtain ⟨p, l, e, R, s, m, args, below, meth, c, Q, G, B, ρ0, h0⟩ := w
  obtain ⟨hx, hb, hml, hown, hts, hK, hlk, hBs, hnm, hfr, hlo, hce, hsl, hk, hret⟩ := hc
  intro ρ H locs ls hR hA hs hL hl hS
  exact lv_if_ge hx hb hd ht (fun q => kt ((i32_le ⟨by omega, by omega⟩ ha).mp q) ρ H locs ls hR hA (fun v hv => hs v (List.mem_cons_of_mem _ hv)) hL hl hS) (fun q => kf (fun z => q ((i32_le ⟨by omega, by omega⟩ ha).mpr z)) ρ H locs ls hR hA (fun v hv => hs v (List.mem_cons_of_mem _ hv)) hL hl hS)
theorem j_if_gt {a b : Int} {off : Int} {tgt : Nat} (hc : Cx w k d mc ms y) (hd : decode y.2.1 pc = .ok (.ifCond .gt off, 3)) (ht : (pc : Int) + off = (tgt : Int)) (ha : inI a) (kt : a > 0 → J w n1 n2 tgt L st h) (kf : ¬ (a > 0) → J w n1 n2 (pc + 3) L st h) : J w n1 n2 pc L (vI a :: st) h := by
  obtain ⟨p, l, e, R, s, m, args, below, meth, c, Q, G, B, ρ0, h0⟩ := w
  obtain ⟨hx, hb, hml, hown, hts, hK, hlk, hBs, hnm, hfr, hlo, hce, hsl, hk, hret⟩ := hc
  intro ρ H locs ls hR hA hs hL hl hS
  exact lv_if_gt hx hb hd ht (fun q => kt ((i32_lt ⟨by omega, by omega⟩ ha).mp q) ρ H locs ls hR hA (fun v hv => hs v (List.mem_cons_of_mem _ hv)) hL hl hS) (fun q => kf (fun z => q ((i32_lt ⟨by omega, by omega⟩ ha).mpr z)) ρ H locs ls hR hA (fun v hv => hs v (List.mem_cons_of_mem _ hv)) hL hl hS)
theorem j_if_le {a b : Int} {off : Int} {tgt : Nat} (hc : Cx w k d mc ms y) (hd : decode y.2.1 pc = .ok (.ifCond .le off, 3)) (ht : (pc : Int) + off = (tgt : Int)) (ha : inI a) (kt : a ≤ 0 → J w n1 n2 tgt L st h) (kf : ¬ (a ≤ 0) → J w n1 n2 (pc + 3) L st h) : J w n1 n2 pc L (vI a :: st) h := by
  obtain ⟨p, l, e, R, s, m, args, below, meth, c, Q, G, B, ρ0, h0⟩ := w
  obtain ⟨hx, hb, hml, hown, hts, hK, hlk, hBs, hnm, hfr, hlo, hce, hsl, hk, hret⟩ := hc
  intro ρ H locs ls hR hA hs hL hl hS
  exact lv_if_le hx hb hd ht (fun q => kt ((i32_le ha ⟨by omega, by omega⟩).mp q) ρ H locs ls hR hA (fun v hv => hs v (List.mem_cons_of_mem _ hv)) hL hl hS) (fun q => kf (fun z => q ((i32_le ha ⟨by omega, by omega⟩).mpr z)) ρ H locs ls hR hA (fun v hv => hs v (List.mem_cons_of_mem _ hv)) hL hl hS)
theorem j_goto {off : Int} {tgt : Nat} (hc : Cx w k d mc ms y) (hd : decode y.2.1 pc = .ok (.goto off, 3)) (ht : (pc : Int) + off = (tgt : Int)) (kk : J w n1 n2 tgt L st h) : J w n1 n2 pc L st h := by
  obtain ⟨p, l, e, R, s, m, args, below, meth, c, Q, G, B, ρ0, h0⟩ := w
  obtain ⟨hx, hb, hml, hown, hts, hK, hlk, hBs, hnm, hfr, hlo, hce, hsl, hk, hret⟩ := hc
  intro ρ H locs ls hR hA hs hL hl hS
  exact lv_goto hx hb hd ht (kk ρ H locs ls hR hA hs hL hl hS)
theorem j_ifnull {x : Option Nm} {off : Int} {tgt : Nat} (hc : Cx w k d mc ms y) (hd : decode y.2.1 pc = .ok (.ifnull off, 3)) (ht : (pc : Int) + off = (tgt : Int)) (kt : x = none → J w n1 n2 tgt L st h) (kf : x ≠ none → J w n1 n2 (pc + 3) L st h) : J w n1 n2 pc L (vO x :: st) h := by
  obtain ⟨p, l, e, R, s, m, args, below, meth, c, Q, G, B, ρ0, h0⟩ := w
  obtain ⟨hx, hb, hml, hown, hts, hK, hlk, hBs, hnm, hfr, hlo, hce, hsl, hk, hret⟩ := hc
  intro ρ H locs ls hR hA hs hL hl hS
  cases x with
  | none => exact lv_ifnullN hx hb hd ht (kt rfl ρ H locs ls hR hA (fun v hv => hs v (List.mem_cons_of_mem _ hv)) hL hl hS)
  | some n => exact lv_ifnull hx hb hd (kf (by simp) ρ H locs ls hR hA (fun v hv => hs v (List.mem_cons_of_mem _ hv)) hL hl hS)
theorem j_ifnonnull {x : Option Nm} {off : Int} {tgt : Nat} (hc : Cx w k d mc ms y) (hd : decode y.2.1 pc = .ok (.ifnonnull off, 3)) (ht : (pc : Int) + off = (tgt : Int)) (kt : x ≠ none → J w n1 n2 tgt L st h) (kf : x = none → J w n1 n2 (pc + 3) L st h) : J w n1 n2 pc L (vO x :: st) h := by
  obtain ⟨p, l, e, R, s, m, args, below, meth, c, Q, G, B, ρ0, h0⟩ := w
  obtain ⟨hx, hb, hml, hown, hts, hK, hlk, hBs, hnm, hfr, hlo, hce, hsl, hk, hret⟩ := hc
  intro ρ H locs ls hR hA hs hL hl hS
  cases x with
  | none => exact lv_ifnonnullN hx hb hd (kf rfl ρ H locs ls hR hA (fun v hv => hs v (List.mem_cons_of_mem _ hv)) hL hl hS)
  | some n => exact lv_ifnonnull hx hb hd ht (kt (by simp) ρ H locs ls hR hA (fun v hv => hs v (List.mem_cons_of_mem _ hv)) hL hl hS)
def lc (a b : Int) : Int := if b < a then 1 else if a = b then 0 else -1
theorem j_lcmp {a b : Int} (hc : Cx w k d mc ms y) (hd : decode y.2.1 pc = .ok (.lcmp, 1)) (ha : inL a) (hb0 : inL b) (kk : J w n1 n2 (pc + 1) L (vI (lc a b) :: st) h) : J w n1 n2 pc L (vL b :: vL a :: st) h := by
  obtain ⟨p, l, e, R, s, m, args, below, meth, c, Q, G, B, ρ0, h0⟩ := w
  obtain ⟨hx, hb, hml, hown, hts, hK, hlk, hBs, hnm, hfr, hlo, hce, hsl, hk, hret⟩ := hc
  intro ρ H locs ls hR hA hs hL hl hS
  have K := kk ρ H locs ls hR hA (List.forall_mem_cons.mpr ⟨trivial, fun v hv => hs v (List.mem_cons_of_mem _ (List.mem_cons_of_mem _ hv))⟩) hL hl hS
  refine W.lcmp hx hb hd ?_
  have e : lg_cmp (Int64.ofInt a) (Int64.ofInt b) = Int32.ofInt (lc a b) := by
    unfold lg_cmp lc
    simp only [i64_lt hb0 ha, i64_eq ha hb0]
    split
    · rfl
    · split <;> rfl
  rw [e]
  exact K
theorem j_tableOut {a : Int} {dflt lo hi : Int} {offs : Array Int} {len tgt : Nat} (hc : Cx w k d mc ms y) (hd : decode y.2.1 pc = .ok (.tableswitch dflt lo hi offs, len)) (ha : inI a) (hr : a < lo ∨ hi < a) (ht : (pc : Int) + dflt = (tgt : Int)) (kk : J w n1 n2 tgt L st h) : J w n1 n2 pc L (vI a :: st) h := by
  obtain ⟨p, l, e, R, s, m, args, below, meth, c, Q, G, B, ρ0, h0⟩ := w
  obtain ⟨hx, hb, hml, hown, hts, hK, hlk, hBs, hnm, hfr, hlo, hce, hsl, hk, hret⟩ := hc
  intro ρ H locs ls hR hA hs hL hl hS
  exact lv_tableOut hx hb hd (by rw [i32_toInt ha]; exact hr) ht (kk ρ H locs ls hR hA (fun v hv => hs v (List.mem_cons_of_mem _ hv)) hL hl hS)
theorem j_tableIn {a : Int} {dflt lo hi off : Int} {offs : Array Int} {len tgt : Nat} (hc : Cx w k d mc ms y) (hd : decode y.2.1 pc = .ok (.tableswitch dflt lo hi offs, len)) (ha : inI a) (h1 : ¬ a < lo) (h2 : ¬ hi < a) (ho : offs[(a - lo).toNat]? = some off) (ht : (pc : Int) + off = (tgt : Int)) (kk : J w n1 n2 tgt L st h) : J w n1 n2 pc L (vI a :: st) h := by
  obtain ⟨p, l, e, R, s, m, args, below, meth, c, Q, G, B, ρ0, h0⟩ := w
  obtain ⟨hx, hb, hml, hown, hts, hK, hlk, hBs, hnm, hfr, hlo, hce, hsl, hk, hret⟩ := hc
  intro ρ H locs ls hR hA hs hL hl hS
  exact lv_tableIn hx hb hd (by rw [i32_toInt ha]; exact h1) (by rw [i32_toInt ha]; exact h2) (by rw [i32_toInt ha]; exact ho) ht (kk ρ H locs ls hR hA (fun v hv => hs v (List.mem_cons_of_mem _ hv)) hL hl hS)
theorem j_lookup {a : Int} {dflt off : Int} {ps : Array (Int × Int)} {len tgt : Nat} (hc : Cx w k d mc ms y) (hd : decode y.2.1 pc = .ok (.lookupswitch dflt ps, len)) (ha : inI a) (hp : (ps.toList.zip (ps.toList.drop 1)).all (fun (a, next) => a.1 < next.1) = true) (ho : Op.lookupswitch.offset ps.toList dflt a = off) (ht : (pc : Int) + off = (tgt : Int)) (kk : J w n1 n2 tgt L st h) : J w n1 n2 pc L (vI a :: st) h := by
  obtain ⟨p, l, e, R, s, m, args, below, meth, c, Q, G, B, ρ0, h0⟩ := w
  obtain ⟨hx, hb, hml, hown, hts, hK, hlk, hBs, hnm, hfr, hlo, hce, hsl, hk, hret⟩ := hc
  intro ρ H locs ls hR hA hs hL hl hS
  exact lv_lookup hx hb hd hp (by rw [i32_toInt ha]; exact ho) ht (kk ρ H locs ls hR hA (fun v hv => hs v (List.mem_cons_of_mem _ hv)) hL hl hS)
theorem j_iret {x : Int} {Post : Option AV → AH → Prop} (hc : Cx w k d mc ms y) (he : Ends w mc ms Post) (hd : decode y.2.1 pc = .ok (.ireturn, 1)) (hrt : y.2.2.2 = some .int) (h1 : n1 ≤ mc) (h2 : n2 ≤ ms) (hp : Post (some (vI x)) h) : J w n1 n2 pc L [vI x] h := by
  obtain ⟨p, l, e, R, s, m, args, below, meth, c, Q, G, B, ρ0, h0⟩ := w
  obtain ⟨hx, hb, hml, hown, hts, hK, hlk, hBs, hnm, hfr, hlo, hce, hsl, hk, hret⟩ := hc
  intro ρ H locs ls hR hA hs hL hl hS
  have hQ : ∀ t, MQ below (QcOf G B ρ0 h0 Post) args s mc ms (fun q => B ≤ q) t → Q t := he
  refine W.widen h1 h2 ?_
  intro T hT X
  obtain ⟨t, t1, t2⟩ := W.iret (Qc := QcOf G B ρ0 h0 Post) (free := fun q => B ≤ q) hx hb (hret.trans hrt) (fun t ht _ => ⟨⟨ρ, some (vI x), h, hA, rfl, hp, (fun v hv => by cases hv; trivial), by rw [ht]; exact hR⟩, hS.F ht⟩) (fun q hq => hS.2.2 q hq) hd hlk T hT X
  exact ⟨t, t1, hQ t t2⟩
theorem j_lret {x : Int} {Post : Option AV → AH → Prop} (hc : Cx w k d mc ms y) (he : Ends w mc ms Post) (hd : decode y.2.1 pc = .ok (.lreturn, 1)) (hrt : y.2.2.2 = some .long) (h1 : n1 ≤ mc) (h2 : n2 ≤ ms) (hp : Post (some (vL x)) h) : J w n1 n2 pc L [vL x] h := by
  obtain ⟨p, l, e, R, s, m, args, below, meth, c, Q, G, B, ρ0, h0⟩ := w
  obtain ⟨hx, hb, hml, hown, hts, hK, hlk, hBs, hnm, hfr, hlo, hce, hsl, hk, hret⟩ := hc
  intro ρ H locs ls hR hA hs hL hl hS
  have hQ : ∀ t, MQ below (QcOf G B ρ0 h0 Post) args s mc ms (fun q => B ≤ q) t → Q t := he
  refine W.widen h1 h2 ?_
  intro T hT X
  obtain ⟨t, t1, t2⟩ := W.lret (Qc := QcOf G B ρ0 h0 Post) (free := fun q => B ≤ q) hx hb (hret.trans hrt) (fun t ht _ => ⟨⟨ρ, some (vL x), h, hA, rfl, hp, (fun v hv => by cases hv; trivial), by rw [ht]; exact hR⟩, hS.F ht⟩) (fun q hq => hS.2.2 q hq) hd hlk T hT X
  exact ⟨t, t1, hQ t t2⟩
theorem j_zret {x : Int} {Post : Option AV → AH → Prop} (hc : Cx w k d mc ms y) (he : Ends w mc ms Post) (hd : decode y.2.1 pc = .ok (.ireturn, 1)) (hrt : y.2.2.2 = some .boolean) (h1 : n1 ≤ mc) (h2 : n2 ≤ ms) (hx01 : x = 0 ∨ x = 1) (hp : Post (some (vI x)) h) : J w n1 n2 pc L [vI x] h := by
  obtain ⟨p, l, e, R, s, m, args, below, meth, c, Q, G, B, ρ0, h0⟩ := w
  obtain ⟨hx, hb, hml, hown, hts, hK, hlk, hBs, hnm, hfr, hlo, hce, hsl, hk, hret⟩ := hc
  intro ρ H locs ls hR hA hs hL hl hS
  have hQ : ∀ t, MQ below (QcOf G B ρ0 h0 Post) args s mc ms (fun q => B ≤ q) t → Q t := he
  refine W.widen h1 h2 ?_
  intro T hT X
  obtain ⟨t, t1, t2⟩ := W.zret (Qc := QcOf G B ρ0 h0 Post) (free := fun q => B ≤ q) hx hb (hret.trans hrt) (by rcases hx01 with rfl | rfl <;> decide) (fun t ht _ => ⟨⟨ρ, some (vI x), h, hA, rfl, hp, (fun v hv => by cases hv; trivial), by rw [ht]; exact hR⟩, hS.F ht⟩) (fun q hq => hS.2.2 q hq) hd hlk T hT X
  exact ⟨t, t1, hQ t t2⟩
theorem j_vret {Post : Option AV → AH → Prop} (hc : Cx w k d mc ms y) (he : Ends w mc ms Post) (hd : decode y.2.1 pc = .ok (.return_, 1)) (hrt : y.2.2.2 = none) (h1 : n1 ≤ mc) (h2 : n2 ≤ ms) (hp : Post none h) : J w n1 n2 pc L [] h := by
  obtain ⟨p, l, e, R, s, m, args, below, meth, c, Q, G, B, ρ0, h0⟩ := w
  obtain ⟨hx, hb, hml, hown, hts, hK, hlk, hBs, hnm, hfr, hlo, hce, hsl, hk, hret⟩ := hc
  intro ρ H locs ls hR hA hs hL hl hS
  have hQ : ∀ t, MQ below (QcOf G B ρ0 h0 Post) args s mc ms (fun q => B ≤ q) t → Q t := he
  refine W.widen h1 h2 ?_
  intro T hT X
  obtain ⟨t, t1, t2⟩ := W.vret (Qc := QcOf G B ρ0 h0 Post) (free := fun q => B ≤ q) hx hb (hret.trans hrt) (fun t ht _ => ⟨⟨ρ, none, h, hA, rfl, hp, (fun v hv => by cases hv), by rw [ht]; exact hR⟩, hS.F ht⟩) (fun q hq => hS.2.2 q hq) hd hlk T hT X
  exact ⟨t, t1, hQ t t2⟩
theorem j_aret {x : Option Nm} {rt : FieldType} {Post : Option AV → AH → Prop} (hc : Cx w k d mc ms y) (he : Ends w mc ms Post) (hd : decode y.2.1 pc = .ok (.areturn, 1)) (hrt : y.2.2.2 = some rt) (hrr : (∃ n, rt = .object n) ∨ ∃ t, rt = .array t) (h1 : n1 ≤ mc) (h2 : n2 ≤ ms) (hp : Post (some (vO x)) h) : J w n1 n2 pc L [vO x] h := by
  obtain ⟨p, l, e, R, s, m, args, below, meth, c, Q, G, B, ρ0, h0⟩ := w
  obtain ⟨hx, hb, hml, hown, hts, hK, hlk, hBs, hnm, hfr, hlo, hce, hsl, hk, hret⟩ := hc
  intro ρ H locs ls hR hA hs hL hl hS
  have hQ : ∀ t, MQ below (QcOf G B ρ0 h0 Post) args s mc ms (fun q => B ≤ q) t → Q t := he
  refine W.widen h1 h2 ?_
  intro T hT X
  obtain ⟨t, t1, t2⟩ := W.aret (Qc := QcOf G B ρ0 h0 Post) (free := fun q => B ≤ q) (v := val ρ (vO x)) hx hb (hret.trans hrt) hrr (by cases x with | none => exact Or.inl rfl | some n => exact Or.inr ⟨_, rfl⟩) (fun t ht _ => ⟨⟨ρ, some (vO x), h, hA, rfl, hp, (fun v hv => by cases hv; exact hs _ List.mem_cons_self), by rw [ht]; exact hR⟩, hS.F ht⟩) (fun q hq => hS.2.2 q hq) hd hlk T hT X
  exact ⟨t, t1, hQ t t2⟩
end Rules
