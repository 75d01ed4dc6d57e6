/-! ===== the words that last, what is known of the tables, the judgement J, contracts Ev ===== -/
def tb : List Cond := lw_tbl.filter goodWord
theorem tb_in {w : Cond} (i : Nat) (h : lw_tbl[i]? = some w) (g : goodWord w = true) : w ∈ tb := List.mem_filter.mpr ⟨List.mem_of_getElem? h, g⟩
theorem tb_good : ∀ w ∈ tb, (w.onTables && w.keeps) = true ∨ ∃ ty, w = .arrayClass ty := fun _ h => good_of_word (List.mem_filter.mp h).2
theorem tb_lw : ∀ w ∈ tb, w ∈ lw_tbl := fun _ h => (List.mem_filter.mp h).1
def atys (G : GG) : List (ClassId × FieldType) := [(G.2.2 0, .int), (G.2.2 1, .long), (G.2.2 2, .boolean), (G.2.2 3, .object RX0), (G.2.2 4, .object RX4), (G.2.2 5, .array .int), (G.2.2 6, .object RX2), (G.2.2 7, .object RX9)]
def nestL : List (String × Nat × MethodName × String) := [(RX10, 11, yX8_init, RX10), (RX10, 66, yX9_init, RX10), (RX1, 120, yX10_within, RX10), (RX0, 102, yX10_within, RX10)]
def KX (U : State) : Prop := (∀ C ∈ [RX0, RX4, RX9, RX2], va_AO C U) ∧ (Cond.arrayOver (.array .int)).before #[] U = true ∧ va_Nw (.castable "[I" "java/lang/Cloneable") U ∧ ∀ q ∈ nestL, va_Nw (.methodLinkNest q.1 q.2.1 q.2.2.1 q.2.2.2) U
def KN (G : GG) (U : State) : Prop := va_K (G.1, G.2.1) vwCl (atys G) U ∧ KX U
theorem aoA_moved {u U : State} (hvm : u.vm.Alike U.vm) (h : (Cond.arrayOver (.array .int)).before #[] u = true) : (Cond.arrayOver (.array .int)).before #[] U = true := by
  obtain ⟨comp, c, k, h1, h2, h3, h4, h5⟩ := arrayOverA_spec h
  obtain ⟨k', hk', he⟩ := hvm.2.2 _ _ h3
  have hb : U.vm.bare = u.vm.bare := by first | exact hvm.bare_eq | exact hvm.bare_eq.symm
  have hi := (va_idx_bare U.vm comp).symm
  rw [hb, va_idx_bare] at hi
  have hi := hi.trans h2
  have hkind : k'.kind = .array comp (.array .int) := by rw [he]; exact h4
  have f1 : U.vm.findClass (FieldType.array .int).toString = some comp := by rw [hvm.findClass]; exact h1
  have f2 : U.vm.findClass ("[" ++ (FieldType.array .int).toString) = some c := by rw [hvm.findClass]; exact h5
  unfold Cond.before Cond.holds
  simp only [Cond.value]
  rw [f1, Option.bind_some]
  refine (congrArg (fun o : Option Nat => (o.bind (fun c => (U.vm.classes[c]?).map fun (k : Class) => match k.kind with | .array _ ty => decide (ty = FieldType.array .int) && decide (U.vm.findClass ("[" ++ (FieldType.array .int).toString) = some c) | _ => false) == some true)) hi).trans ?_
  simp [hk', hkind, f2]
theorem KX.warm {s U : State} (hW : s.WarmedH U.vm) (h : KX s) : KX U :=
  ⟨fun C hC => (h.1 C hC).moved hW.alike, aoA_moved hW.alike h.2.1, h.2.2.1.warmC hW, fun q hq => (h.2.2.2 q hq).warmM hW⟩
theorem KN.warm {G : GG} {s U : State} (hW : s.WarmedH U.vm) (h : KN G s) : KN G U := ⟨h.1.moved hW.alike, h.2.warm hW⟩
theorem KX.vm {s U : State} (e : s.vm = U.vm) (h : KX s) : KX U :=
  ⟨fun C hC => (h.1 C hC).moved (by rw [e]; exact Vm.Alike.refl _), aoA_moved (by rw [e]; exact Vm.Alike.refl _) h.2.1, h.2.2.1.same rfl e, fun q hq => (h.2.2.2 q hq).same rfl e⟩
theorem KN.vm {G : GG} {s U : State} (e : s.vm = U.vm) (h : KN G s) : KN G U := ⟨h.1.moved (by rw [e]; exact Vm.Alike.refl _), h.2.vm e⟩
/-- locals -/
def LV (ρ : Nm → Nat) (ls : Array Slot) (L : List (Option AV)) : Prop := ls.size = L.length ∧ lv_wf ls ∧ ∀ (i : Nat) (v : AV), L[i]? = some (some v) → ls[i]? = some (.val (val ρ v))
abbrev MC : Type := Program × Launch × Env × Room × State × MethodId × Array Value × List Frame × Method × Code × (State → Prop) × GG × Nat × (Nm → Nat) × AH
abbrev WC : Type := Launch × GG × Nat
abbrev MD : Type := MethodName × ByteArray × Nat × Option FieldType
def J (w : MC) (n1 n2 pc : Nat) (L : List (Option AV)) (st : List AV) (h : AH) : Prop := match w with
  | (p, l, e, R, s, m, args, below, meth, c, Q, G, B, ρ0, h0) => ∀ (ρ : Nm → Nat) (H : Heap) (locs : List Loc) (ls : Array Slot), Rep G B ρ h H → Ag h0 ρ0 h ρ → (∀ v ∈ st, Cl h v) → (∀ v, some v ∈ L → Cl h v) → LV ρ ls L → va_S (fun q => B ≤ q) s.heap H locs →
    W p l e R s m args below meth c H locs n1 n2 Q (F0 m pc ls (st.map (val ρ)))
def Cx (w : MC) (k : WC) (d mc ms : Nat) (y : MD) : Prop := match w with
  | (p, l, e, R, s, m, args, below, meth, c, Q, G, B, ρ0, h0) => p.tables.exec = Jvm.exec ∧ c.code = y.2.1 ∧ c.maxLocals = y.2.2.1 ∧ s.vm.findClass y.1.cls = some m.cls ∧ (∀ x ∈ tb, x.before args s = true) ∧ KN G s ∧ meth.locks = false ∧ B ≤ s.heap.size ∧
    meth.name = y.1.name ∧ d ≤ R.frames ∧ 100 * d ≤ R.locals ∧ mc ≤ R.cells ∧ ms ≤ R.slots ∧ k = (l, G, B) ∧ meth.sig.returnType = y.2.2.2
def QcOf (G : GG) (B : Nat) (ρ : Nm → Nat) (h : AH) (Post : Option AV → AH → Prop) : Array Value → State → Outcome → State → Prop := fun _ st o t =>
  (∃ (ρ' : Nm → Nat) (r : Option AV) (h' : AH), Ag h ρ h' ρ' ∧ o = .returned (r.map (val ρ')) ∧ Post r h' ∧ (∀ v ∈ r, Cl h' v) ∧ Rep G B ρ' h' t.heap) ∧ va_F (fun q => B ≤ q) st t
def Ends (w : MC) (mc ms : Nat) (Post : Option AV → AH → Prop) : Prop := match w with
  | (p, l, e, R, s, m, args, below, meth, c, Q, G, B, ρ0, h0) => ∀ t, MQ below (QcOf G B ρ0 h0 Post) args s mc ms (fun q => B ≤ q) t → Q t
def rmD (d mc ms : Nat) : Room := { frames := d, cells := mc, slots := ms, locals := 100 * d }
def PcOf (G : GG) (B : Nat) (ρ : Nm → Nat) (h : AH) (as : List AV) : Array Value → State → Prop := fun av U => av = (as.map (val ρ)).toArray ∧ (∀ v ∈ as, Cl h v) ∧ Rep G B ρ h U.heap ∧ KN G U ∧ B ≤ U.heap.size
/-- a method's contract: at depth d, from heap h with arguments as it returns r and h' with Post r h', making at most mc cells of ms slots -/
def Ev (k : WC) (d : Nat) (y : MD) (h : AH) (as : List AV) (mc ms : Nat) (Post : Option AV → AH → Prop) : Prop :=
  ∀ ρ, Met k.1 y.1 (.code y.1 y.2.1 y.2.2.1 y.2.2.2 :: tb) (rmD d mc ms) (PcOf k.2.1 k.2.2 ρ h as) (QcOf k.2.1 k.2.2 ρ h Post) mc ms (fun q => k.2.2 ≤ q)
def ent : List AV → List (Option AV)
  | [] => []
  | .inr (.inl x) :: r => some (.inr (.inl x)) :: none :: ent r
  | .inl x :: r => some (.inl x) :: ent r
  | .inr (.inr x) :: r => some (.inr (.inr x)) :: ent r
theorem ent_len (ρ : Nm → Nat) : ∀ as : List AV, (lg_sl (as.map (val ρ))).length = (ent as).length
  | [] => rfl
  | .inr (.inl x) :: r => by simpa [lg_sl, val, Value.category, ent, List.flatMap_cons] using ent_len ρ r
  | .inl x :: r => by simpa [lg_sl, val, Value.category, ent, List.flatMap_cons] using ent_len ρ r
  | .inr (.inr none) :: r => by simpa [lg_sl, val, Value.category, ent, List.flatMap_cons] using ent_len ρ r
  | .inr (.inr (some n)) :: r => by simpa [lg_sl, val, Value.category, ent, List.flatMap_cons] using ent_len ρ r
theorem ent_args (ρ : Nm → Nat) : ∀ (as : List AV) (k i : Nat) (v : AV), (ent as)[i]? = some (some v) → (k + i, val ρ v) ∈ lv_args k (as.map (val ρ))
  | [], _, i, v, h => by simp [ent] at h
  | .inr (.inl x) :: r, k, i, v, h => by
    simp only [List.map_cons, lv_args, val, Value.category, if_true]
    match i, h with
    | 0, h => simp [ent] at h; subst h; simp [val]
    | 1, h => simp [ent] at h
    | i + 2, h =>
      have := ent_args ρ r (k + 2) i v (by simpa [ent] using h)
      rw [show k + (i + 2) = k + 2 + i by omega]
      exact List.mem_cons_of_mem _ this
  | .inl x :: r, k, i, v, h => by
    simp only [List.map_cons, lv_args, val, Value.category]
    match i, h with
    | 0, h => simp [ent] at h; subst h; simp [val]
    | i + 1, h =>
      have := ent_args ρ r (k + 1) i v (by simpa [ent] using h)
      rw [show k + (i + 1) = k + 1 + i by omega]
      exact List.mem_cons_of_mem _ this
  | .inr (.inr none) :: r, k, i, v, h => by
    simp only [List.map_cons, lv_args, val, Value.category]
    match i, h with
    | 0, h => simp [ent] at h; subst h; simp [val]
    | i + 1, h =>
      have := ent_args ρ r (k + 1) i v (by simpa [ent] using h)
      rw [show k + (i + 1) = k + 1 + i by omega]
      exact List.mem_cons_of_mem _ this
  | .inr (.inr (some n)) :: r, k, i, v, h => by
    simp only [List.map_cons, lv_args, val, Value.category]
    match i, h with
    | 0, h => simp [ent] at h; subst h; simp [val]
    | i + 1, h =>
      have := ent_args ρ r (k + 1) i v (by simpa [ent] using h)
      rw [show k + (i + 1) = k + 1 + i by omega]
      exact List.mem_cons_of_mem _ this
theorem ent_mem : ∀ (as : List AV) (v : AV), some v ∈ ent as → v ∈ as
  | [], v, h => by simp [ent] at h
  | .inr (.inl x) :: r, v, h => by
    simp only [ent, List.mem_cons] at h
    rcases h with h | h | h
    · cases h; exact List.mem_cons_self
    · cases h
    · exact List.mem_cons_of_mem _ (ent_mem r v h)
  | .inl x :: r, v, h => by
    simp only [ent, List.mem_cons] at h
    rcases h with h | h
    · cases h; exact List.mem_cons_self
    · exact List.mem_cons_of_mem _ (ent_mem r v h)
  | .inr (.inr x) :: r, v, h => by
    simp only [ent, List.mem_cons] at h
    rcases h with h | h
    · cases h; exact List.mem_cons_self
    · exact List.mem_cons_of_mem _ (ent_mem r v h)
/-- a contract out of the judgement at the entry -/
theorem Ev.mk {k : WC} {d : Nat} {y : MD} {h : AH} {as : List AV} {mc ms : Nat} {Post : Option AV → AH → Prop} (hy : plainName y.1.cls = true) (L : List (Option AV)) (hL : L = ent as ++ List.replicate (y.2.2.1 - (ent as).length) none) (hle : (ent as).length ≤ y.2.2.1)
    (body : ∀ w : MC, Cx w k d mc ms y → Ends w mc ms Post → J w 0 0 0 L [] h) : Ev k d y h as mc ms Post := by
  obtain ⟨l, G, B⟩ := k
  obtain ⟨yn, cc, nL, ret⟩ := y
  intro ρ
  refine Met.ofW (cc := cc) (maxL := nL) (ret := ret) hy rfl ?_
  intro p e s m args below meth c s₁ B' hml hv
  obtain ⟨rfl, hcl, hR, hK, hB⟩ := hv
  have hts := atoms_spec (ws := Cond.code yn cc nL ret :: tb) B'.pre
  have hown : s.vm.findClass yn.cls = some m.cls := findClass_of_methodNamed B'.named
  have hnm : meth.name = yn.name := (name_of_methodNamed B'.named B'.method).1
  have hlocks := B'.notSynchronized
  have K := body (p, l, e, rmD d mc ms, s, m, (as.map (val ρ)).toArray, below, meth, c, MQ below (QcOf G B ρ h Post) (as.map (val ρ)).toArray s mc ms (fun q => B ≤ q), G, B, ρ, h)
    ⟨B'.exec, B'.bytes, hml, hown, fun x hx => hts x (List.mem_cons_of_mem _ hx), hK, hlocks, hB, hnm, Nat.le_refl _, Nat.le_refl _, Nat.le_refl _, Nat.le_refl _, rfl, B'.returns⟩ (fun _ ht => ht)
  have hl := lv_entry (as.map (val ρ)) (n := nL) (by rw [ent_len]; exact hle)
  rw [lg_entry_eq]
  generalize (lg_sl (as.map (val ρ)) ++ List.replicate (nL - (lg_sl (as.map (val ρ))).length) Slot.unset).toArray = ls at hl ⊢
  have hLen : L.length = nL := by rw [hL]; simp; dsimp only at hle; omega
  refine K ρ s.heap [] ls hR (Ag.rf h ρ) (fun v hv => by cases hv) (fun v hv => ?_) ⟨by rw [hLen]; exact hl.1, hl.2.1, fun i v hi => ?_⟩ va_S.rf
  · rw [hL] at hv
    rcases List.mem_append.mp hv with hv | hv
    · exact hcl v (ent_mem as v hv)
    · have := List.eq_of_mem_replicate hv
      cases this
  · rw [hL] at hi
    by_cases hlt : i < (ent as).length
    · rw [List.getElem?_append_left hlt] at hi
      have := ent_args ρ as 0 i v hi
      rw [Nat.zero_add] at this
      exact hl.2.2 _ this
    · rw [List.getElem?_append_right (by omega)] at hi
      have := List.eq_of_mem_replicate (List.mem_of_getElem? hi)
      cases this
