/-! ===== names for cells, values over Int, an abstract heap by names; what a real heap has to do with it ===== -/
abbrev Nm : Type := Nat × Int
abbrev AV : Type := Int ⊕ Int ⊕ Option Nm
abbrev AO : Type := (Nat × List AV) ⊕ (Nat × Nat × (Int → Int)) ⊕ (Nat × Nat × (Int → Option Nm))
abbrev AH : Type := Nm → Option AO
abbrev vI (x : Int) : AV := .inl x
abbrev vL (x : Int) : AV := .inr (.inl x)
abbrev vO (o : Option Nm) : AV := .inr (.inr o)
abbrev vR (n : Nm) : AV := .inr (.inr (some n))
abbrev vN : AV := .inr (.inr none)
abbrev oO (ci : Nat) (fs : List AV) : AO := .inl (ci, fs)
abbrev oP (kd n : Nat) (f : Int → Int) : AO := .inr (.inl (kd, n, f))
abbrev oI (n : Nat) (f : Int → Int) : AO := .inr (.inl (0, n, f))
abbrev oL (n : Nat) (f : Int → Int) : AO := .inr (.inl (1, n, f))
abbrev oZ (n : Nat) (f : Int → Int) : AO := .inr (.inl (2, n, f))
abbrev oA (kd n : Nat) (f : Int → Option Nm) : AO := .inr (.inr (kd, n, f))
def up (h : AH) (n : Nm) (o : AO) : AH := fun x => if x = n then some o else h x
def fu (f : Int → Int) (i v : Int) : Int → Int := fun x => if x = i then v else f x
def ru (f : Int → Option Nm) (i : Int) (v : Option Nm) : Int → Option Nm := fun x => if x = i then v else f x
theorem up_same (h : AH) (n : Nm) (o : AO) : up h n o n = some o := if_pos rfl
theorem up_ne {h : AH} {n n' : Nm} {o : AO} (hn : n' ≠ n) : up h n o n' = h n' := if_neg hn
theorem fu_same (f : Int → Int) (i v : Int) : fu f i v i = v := if_pos rfl
theorem fu_ne {f : Int → Int} {i j v : Int} (hn : j ≠ i) : fu f i v j = f j := if_neg hn
theorem ru_same (f : Int → Option Nm) (i : Int) (v : Option Nm) : ru f i v i = v := if_pos rfl
theorem ru_ne {f : Int → Option Nm} {i j : Int} {v : Option Nm} (hn : j ≠ i) : ru f i v j = f j := if_neg hn
abbrev GG : Type := (Nat → ClassId) × (Nat → Nat → Nat) × (Nat → ClassId)
def val (ρ : Nm → Nat) : AV → Value
  | .inl x => .int (Int32.ofInt x)
  | .inr (.inl x) => .long (Int64.ofInt x)
  | .inr (.inr none) => .null
  | .inr (.inr (some n)) => .ref (ρ n)
def pv (kd : Nat) (x : Int) : Value := if kd = 1 then .long (Int64.ofInt x) else .int (Int32.ofInt x)
def vcat : AV → Nat
  | .inr (.inl _) => 2
  | _ => 1
theorem val_cat (ρ : Nm → Nat) (v : AV) : (val ρ v).category = vcat v := by
  rcases v with x | x | (_ | n) <;> rfl
def Cl (h : AH) : AV → Prop
  | .inr (.inr (some n)) => h n ≠ none
  | _ => True
def ClO (h : AH) : AO → Prop
  | .inl q => ∀ v ∈ q.2, Cl h v
  | .inr (.inl _) => True
  | .inr (.inr q) => ∀ j : Nat, j < q.2.1 → Cl h (vO (q.2.2 j))
def CellAt (G : GG) (ρ : Nm → Nat) (H : Heap) (a : Nat) : AO → Prop
  | .inl q => ∃ r : vw_C, vwCl[q.1]? = some r ∧ q.2.length = r.2.2 ∧ t_OB a (G.1 q.1) r.2.2 (G.2.1 q.1) H (fun k => val ρ (q.2.getD k vN))
  | .inr (.inl q) => q.2.1 < 536870912 ∧ H[a]? = some (arrV (G.2.2 q.1) q.2.1 (fun j => pv q.1 (q.2.2 j)))
  | .inr (.inr q) => q.2.1 < 536870912 ∧ H[a]? = some (arrV (G.2.2 q.1) q.2.1 (fun j => val ρ (vO (q.2.2 j))))
def Rep (G : GG) (B : Nat) (ρ : Nm → Nat) (h : AH) (H : Heap) : Prop :=
  (∀ n o, h n = some o → CellAt G ρ H (ρ n) o ∧ ClO h o ∧ B ≤ ρ n) ∧ ∀ n n', h n ≠ none → h n' ≠ none → ρ n = ρ n' → n = n'
/-- h' has all names of h, at the same cells -/
def Ag (h : AH) (ρ : Nm → Nat) (h' : AH) (ρ' : Nm → Nat) : Prop := ∀ n, h n ≠ none → h' n ≠ none ∧ ρ' n = ρ n
theorem Ag.rf (h : AH) (ρ : Nm → Nat) : Ag h ρ h ρ := fun _ hn => ⟨hn, rfl⟩
theorem Ag.tr {h h' h2 : AH} {ρ ρ' ρ2 : Nm → Nat} (a : Ag h ρ h' ρ') (b : Ag h' ρ' h2 ρ2) : Ag h ρ h2 ρ2 := fun n hn => by
  obtain ⟨a1, a2⟩ := a n hn
  obtain ⟨b1, b2⟩ := b n a1
  exact ⟨b1, b2.trans a2⟩
theorem Cl.ag {h h' : AH} {ρ ρ' : Nm → Nat} (a : Ag h ρ h' ρ') {v : AV} (c : Cl h v) : Cl h' v ∧ val ρ' v = val ρ v := by
  rcases v with x | x | (_ | n)
  · exact ⟨trivial, rfl⟩
  · exact ⟨trivial, rfl⟩
  · exact ⟨trivial, rfl⟩
  · obtain ⟨a1, a2⟩ := a n c
    exact ⟨a1, by show Value.ref _ = Value.ref _; rw [a2]⟩
theorem ag_map {h h' : AH} {ρ ρ' : Nm → Nat} (a : Ag h ρ h' ρ') {l : List AV} (c : ∀ v ∈ l, Cl h v) : l.map (val ρ') = l.map (val ρ) :=
  List.map_congr_left fun v hv => (Cl.ag a (c v hv)).2
theorem up_some {h : AH} {n : Nm} {o o' : AO} (hn : h n = some o) : ∀ x, h x ≠ none ↔ up h n o' x ≠ none := fun x => by
  by_cases e : x = n
  · subst e; simp [up, hn]
  · rw [up_ne e]
theorem up_ag {h : AH} {n : Nm} {o o' : AO} (hn : h n = some o) (ρ : Nm → Nat) : Ag h ρ (up h n o') ρ := fun x hx => ⟨(up_some hn x).mp hx, rfl⟩
theorem Cl.w {h : AH} {n : Nm} {o : AO} {v : AV} (c : Cl h v) : Cl (up h n o) v := by
  rcases v with x | x | (_ | k)
  · trivial
  · trivial
  · trivial
  · show up h n o k ≠ none
    by_cases e : k = n
    · subst e; simp [up]
    · rw [up_ne e]; exact c
theorem ClO.w {h : AH} {n : Nm} {o o' : AO} (c : ClO h o') : ClO (up h n o) o' := by
  rcases o' with q | q | q
  · exact fun v hv => (c v hv).w
  · trivial
  · exact fun j hj => (c j hj).w
theorem CellAt.kept {G : GG} {ρ : Nm → Nat} {H H1 : Heap} {a : Nat} {o : AO} (h : CellAt G ρ H a o) (hq : H1[a]? = H[a]?) : CellAt G ρ H1 a o := by
  rcases o with q | q | q
  · obtain ⟨r, h1, h2, h3⟩ := h
    exact ⟨r, h1, h2, h3.kept hq⟩
  · exact ⟨h.1, hq.trans h.2⟩
  · exact ⟨h.1, hq.trans h.2⟩
theorem CellAt.lt {G : GG} {ρ : Nm → Nat} {H : Heap} {a : Nat} {o : AO} (h : CellAt G ρ H a o) : a < H.size := by
  rcases o with q | q | q
  · obtain ⟨r, h1, h2, cell, h3, -⟩ := h
    exact (Array.getElem?_eq_some_iff.mp h3).1
  · exact (Array.getElem?_eq_some_iff.mp h.2).1
  · exact (Array.getElem?_eq_some_iff.mp h.2).1
theorem arrV_congr {c : ClassId} {n : Nat} {f g : Nat → Value} (h : ∀ j, j < n → f j = g j) : arrV c n f = arrV c n g := by
  have h2 : ∀ (k : Nat), k < n → (arrV c n f).slots[k]? = (arrV c n g).slots[k]? := fun k hk => by rw [arrV_read _ _ hk, arrV_read _ _ hk, h k hk]
  have h3 : (arrV c n f).slots = (arrV c n g).slots := by
    apply Array.ext_getElem?
    intro k
    by_cases hk : k < n
    · exact h2 k hk
    · have a1 : (arrV c n f).slots.size ≤ k := by rw [arrV_size]; omega
      have a2 : (arrV c n g).slots.size ≤ k := by rw [arrV_size]; omega
      rw [Array.getElem?_eq_none a1, Array.getElem?_eq_none a2]
  unfold arrV at h3 ⊢
  simp only at h3
  rw [h3]
theorem CellAt.ag {G : GG} {h h' : AH} {ρ ρ' : Nm → Nat} (a : Ag h ρ h' ρ') {H : Heap} {q : Nat} {o : AO} (c : ClO h o) (k : CellAt G ρ H q o) : CellAt G ρ' H q o := by
  rcases o with o | o | o
  · obtain ⟨r, h1, h2, h3⟩ := k
    refine ⟨r, h1, h2, h3.to fun j hj => ?_⟩
    refine (Cl.ag a (v := o.2.getD j vN) ?_).2.symm
    rw [List.getD_eq_getElem?_getD]
    cases e : o.2[j]? with
    | none => trivial
    | some v => exact c v (List.mem_of_getElem? e)
  · exact k
  · refine ⟨k.1, k.2.trans (congrArg some (arrV_congr fun j hj => ?_))⟩
    exact (Cl.ag a (c j hj)).2.symm
theorem Rep.put {G : GG} {B : Nat} {ρ : Nm → Nat} {h : AH} {H H1 : Heap} {n : Nm} {o o' : AO} (hR : Rep G B ρ h H) (hn : h n = some o) (hq : ∀ q, q ≠ ρ n → H1[q]? = H[q]?) (hc : CellAt G ρ H1 (ρ n) o') (hcl : ClO h o') : Rep G B ρ (up h n o') H1 := by
  refine ⟨fun x ox hx => ?_, fun x x' hx hx' e => hR.2 x x' ((up_some hn x).mpr hx) ((up_some hn x').mpr hx') e⟩
  by_cases e : x = n
  · subst e
    rw [up_same] at hx
    cases hx
    exact ⟨hc, hcl.w, (hR.1 x o hn).2.2⟩
  · rw [up_ne e] at hx
    obtain ⟨a1, a2, a3⟩ := hR.1 x ox hx
    refine ⟨a1.kept (hq _ fun e2 => e (hR.2 x n (by rw [hx]; simp) (by rw [hn]; simp) e2)), a2.w, a3⟩
def rnew (ρ : Nm → Nat) (n : Nm) (a : Nat) : Nm → Nat := fun x => if x = n then a else ρ x
theorem rnew_same (ρ : Nm → Nat) (n : Nm) (a : Nat) : rnew ρ n a n = a := if_pos rfl
theorem rnew_ne {ρ : Nm → Nat} {n x : Nm} {a : Nat} (hn : x ≠ n) : rnew ρ n a x = ρ x := if_neg hn
theorem up_ag_new {h : AH} {n : Nm} {o : AO} (hn : h n = none) (ρ : Nm → Nat) (a : Nat) : Ag h ρ (up h n o) (rnew ρ n a) := fun x hx => by
  have e : x ≠ n := fun e => hx (by rw [e]; exact hn)
  exact ⟨by rw [up_ne e]; exact hx, rnew_ne e⟩
theorem Rep.new {G : GG} {B : Nat} {ρ : Nm → Nat} {h : AH} {H H1 : Heap} {n : Nm} {o : AO} (hR : Rep G B ρ h H) (hn : h n = none) (hq : ∀ q, q < H.size → H1[q]? = H[q]?) (hB : B ≤ H.size) (hc : CellAt G (rnew ρ n H.size) H1 H.size o) (hcl : ClO (up h n o) o) : Rep G B (rnew ρ n H.size) (up h n o) H1 := by
  have ag := up_ag_new (o := o) hn ρ H.size
  refine ⟨fun x ox hx => ?_, fun x x' hx hx' e => ?_⟩
  · by_cases e : x = n
    · subst e
      rw [up_same] at hx
      cases hx
      rw [rnew_same]
      exact ⟨hc, hcl, hB⟩
    · rw [up_ne e] at hx
      obtain ⟨a1, a2, a3⟩ := hR.1 x ox hx
      rw [rnew_ne e]
      exact ⟨(a1.kept (hq _ a1.lt)).ag ag a2, a2.w, a3⟩
  · by_cases e1 : x = n
    · by_cases e2 : x' = n
      · rw [e1, e2]
      · rw [up_ne e2] at hx'
        rw [e1, rnew_same, rnew_ne e2] at e
        obtain ⟨ox, hox⟩ := Option.ne_none_iff_exists'.mp hx'
        have := (hR.1 x' ox hox).1.lt
        omega
    · rw [up_ne e1] at hx
      by_cases e2 : x' = n
      · rw [e2, rnew_same, rnew_ne e1] at e
        obtain ⟨ox, hox⟩ := Option.ne_none_iff_exists'.mp hx
        have := (hR.1 x ox hox).1.lt
        omega
      · rw [up_ne e2] at hx'
        rw [rnew_ne e1, rnew_ne e2] at e
        exact hR.2 x x' hx hx' e
