/-! ===== methods that throw: contracts, the throw, the catch ===== -/
def strL : List (Nat × String) := [(148, "no such harvest"), (153, "no such thing of a harvest"), (177, "no such rule"), (289, "no such season of a run"), (291, "no such thing of a season")]
def ZX (B : Nat) (U : State) : Prop := vx_Zq Bundle.tN "UNASSIGNED_STACK" Bundle.steD (fun q => B ≤ q) U U.heap ∧ vx_Zq Bundle.tN "SUPPRESSED_SENTINEL" Bundle.listD (fun q => B ≤ q) U U.heap ∧ (∀ q ∈ strL, ∃ sa : Nat, vk_R RX10 q.1 q.2 sa U) ∧ va_Nw (.castable nseN nseN) U ∧ va_Nw (.declares (iniS "java/lang/RuntimeException")) U ∧ va_Nw (.declares (iniS "java/lang/Exception")) U ∧ va_Nw (.declares (iniS "java/lang/Throwable")) U
theorem ZX.go {B : Nat} {s U : State} {H : Heap} {locs : List Loc} (h : ZX B s) (hS : va_S (fun q => B ≤ q) s.heap H locs) (hU : U.heap = H) (hW : s.WarmedH U.vm) : ZX B U := by
  obtain ⟨h1, h2, h3, h4, h5, h6, h7⟩ := h
  refine ⟨?_, ?_, fun q hq => ?_, h4.warmC hW, h5.warmD hW, h6.warmD hW, h7.warmD hW⟩
  · rw [hU]; exact vx_Zq.moved hW.alike (h1.kept hS.2.1)
  · rw [hU]; exact vx_Zq.moved hW.alike (h2.kept hS.2.1)
  · obtain ⟨sa, h⟩ := h3 q hq
    exact ⟨sa, vk_R.warm hW h⟩
theorem ZX.same {B : Nat} {u U : State} (hv : u.vm = U.vm) (hh : u.heap = U.heap) (h : ZX B u) : ZX B U := by
  obtain ⟨h1, h2, h3, h4, h5, h6, h7⟩ := h
  refine ⟨?_, ?_, fun q hq => ?_, h4.same rfl hv, h5.same rfl hv, h6.same rfl hv, h7.same rfl hv⟩
  · rw [← hh]; exact vx_Zq.moved (by rw [hv]; exact Vm.Alike.refl _) h1
  · rw [← hh]; exact vx_Zq.moved (by rw [hv]; exact Vm.Alike.refl _) h2
  · obtain ⟨sa, h⟩ := h3 q hq
    exact ⟨sa, vk_R.same hv.symm h⟩
theorem nse_tb : ∀ w ∈ (vx_atS RX10 150).filter goodWord, w ∈ lw_tbl := by decide +kernel
def nseB : List Cond := [.castable nseN nseN, .declares (iniS "java/lang/RuntimeException"), .declares (iniS "java/lang/Exception"), .declares (iniS "java/lang/Throwable")]
theorem nse_no : ∀ w ∈ (vx_atS RX10 150).filter (fun w => !goodWord w), w ∈ nseB := by decide +kernel
theorem nse_ot : ∀ w ∈ Cond.classLink RX10 146 nseN :: Cond.initialized nseN :: vx_atS RX10 150, vx_ot w = true := by decide +kernel
theorem nse_k : Cond.classLink RX10 146 nseN ∈ tb := (tb_in 1143 (by decide +kernel) rfl)
theorem nse_i : Cond.initialized nseN ∈ tb := (tb_in 118 (by decide +kernel) rfl)
theorem nse_at {args : Array Value} {s : State} {B : Nat} (hts : ∀ x ∈ tb, x.before args s = true) (hz : ZX B s) : ∀ w ∈ vx_atS RX10 150, w.before args s = true := by
  obtain ⟨h1, h2, h3, h4, h5, h6, h7⟩ := hz
  refine vx_hat (B := nseB) (fun w hw => hts w (List.mem_filter.mpr ⟨nse_tb w hw, (List.mem_filter.mp hw).2⟩)) nse_no ?_
  exact vx_c (va_Nw.use rfl h4) (vx_c (va_Nw.use rfl h5) (vx_c (va_Nw.use rfl h6) (vx_c (va_Nw.use rfl h7) vx_n)))
theorem Rep.kept {G : GG} {B : Nat} {ρ : Nm → Nat} {h : AH} {H H1 : Heap} (hR : Rep G B ρ h H) (hq : ∀ q : Nat, q < H.size → H1[q]? = H[q]?) : Rep G B ρ h H1 := by
  refine ⟨fun n o hn => ?_, hR.2⟩
  obtain ⟨a, b, c⟩ := hR.1 n o hn
  exact ⟨a.kept (hq _ (hR.lt (by rw [hn]; exact fun z => nomatch z))), b, c⟩
def XCo (G : GG) (B : Nat) (ρ : Nm → Nat) (h : AH) (PX : Prop) : String → State → State → Prop := fun E st t => E = nseN ∧ PX ∧ (∃ ρ' : Nm → Nat, Ag h ρ h ρ' ∧ Rep G B ρ' h t.heap) ∧ va_F (fun q => B ≤ q) st t
def PcX (G : GG) (B : Nat) (ρ : Nm → Nat) (h : AH) (as : List AV) : Array Value → State → Prop := fun av U => PcOf G B ρ h as av U ∧ ZX B U
theorem PcX.blind {G : GG} {B : Nat} {ρ : Nm → Nat} {h : AH} {as : List AV} : FrameBlind (PcX G B ρ h as) := fun a U g mk hp => ⟨PcOf.blind a U g mk hp.1, hp.2.same rfl rfl⟩
def EvX (k : WC) (d : Nat) (y : MD) (h : AH) (as : List AV) (mc ms : Nat) (Post : Option AV → AH → Prop) (PX : Prop) : Prop :=
  ∀ ρ, vx_Met k.1 y.1 (.code y.1 y.2.1 y.2.2.1 y.2.2.2 :: tb) (rmD d mc ms) (PcX k.2.1 k.2.2 ρ h as) (QcOf k.2.1 k.2.2 ρ h Post) (XCo k.2.1 k.2.2 ρ h PX) mc ms (fun q => k.2.2 ≤ q)
def Thr (w : MC) (mc ms : Nat) (h : AH) (PX : Prop) : Prop := match w with
  | (p, l, e, R, s, m, args, below, meth, c, Q, G, B, ρ0, h0) => h0 = h ∧ ZX B s ∧ l.stackTraces = false ∧ (∀ x ∈ c.exceptionTable.toList, False) ∧ ∀ t, vx_MQ below (fun _ _ _ _ => False) (XCo G B ρ0 h0 PX) args s mc ms (fun q => B ≤ q) t → Q t
theorem EvX.mk {k : WC} {d : Nat} {y : MD} {h : AH} {as : List AV} {mc ms : Nat} {Post : Option AV → AH → Prop} {PX : Prop} (hl0 : k.1.stackTraces = false) (hy : plainName y.1.cls = true) (L : List (Option AV)) (hL : L = ent as ++ List.replicate (y.2.2.1 - (ent as).length) none) (hle : (ent as).length ≤ y.2.2.1)
    (body : ∀ w : MC, Cx w k d mc ms y → Ends w mc ms Post → Thr w mc ms h PX → J w 0 0 0 L [] h) : EvX k d y h as mc ms Post PX := by
  obtain ⟨l, G, B⟩ := k
  obtain ⟨yn, cc, nL, ret⟩ := y
  intro ρ
  refine vx_ofW (cc := cc) (maxL := nL) (ret := ret) hy rfl ?_
  intro p e s m args below meth c s₁ B' hml hex hv
  obtain ⟨⟨rfl, hcl, hR, hK, hB⟩, hz⟩ := hv
  have hts := atoms_spec (ws := Cond.code yn cc nL ret :: tb) B'.pre
  have hown : s.vm.findClass yn.cls = some m.cls := findClass_of_methodNamed B'.named
  have hnm : meth.name = yn.name := (name_of_methodNamed B'.named B'.method).1
  have hlocks := B'.notSynchronized
  have K := body (p, l, e, rmD d mc ms, s, m, (as.map (val ρ)).toArray, below, meth, c, vx_MQ below (QcOf G B ρ h Post) (XCo G B ρ h PX) (as.map (val ρ)).toArray s mc ms (fun q => B ≤ q), G, B, ρ, h)
    ⟨B'.exec, B'.bytes, hml, hown, fun x hx => hts x (List.mem_cons_of_mem _ hx), hK, hlocks, hB, hnm, Nat.le_refl _, Nat.le_refl _, Nat.le_refl _, Nat.le_refl _, rfl, B'.returns⟩
    (fun t ht => by obtain ⟨o, b1, b2, b3, b4⟩ := ht; exact ⟨o, b1, b2, Or.inl ⟨b3, b4⟩⟩)
    ⟨rfl, hz, hl0, hex, fun t ht => by obtain ⟨o, b1, b2, b3⟩ := ht; exact ⟨o, b1, b2, b3.elim (fun z => z.1.elim) Or.inr⟩⟩
  have hl := lv_entry (as.map (val ρ)) (n := nL) (by rw [ent_len]; exact hle)
  rw [lg_entry_eq]
  generalize (lg_sl (as.map (val ρ)) ++ List.replicate (nL - (lg_sl (as.map (val ρ))).length) Slot.unset).toArray = ls at hl ⊢
  have hLen : L.length = nL := by rw [hL]; simp; dsimp only at hle; omega
  refine K ρ s.heap [] ls hR (Ag.rf h ρ) (fun v hv => by cases hv) (fun v hv => ?_) ⟨by rw [hLen]; exact hl.1, hl.2.1, fun i v hi => ?_⟩ va_S.rf
  · rw [hL] at hv
    rcases List.mem_append.mp hv with hv | hv
    · exact hcl v (ent_mem as v hv)
    · have := List.eq_of_mem_replicate hv
      cases this
  · rw [hL] at hi
    by_cases hlt : i < (ent as).length
    · rw [List.getElem?_append_left hlt] at hi
      have := ent_args ρ as 0 i v hi
      rw [Nat.zero_add] at this
      exact hl.2.2 _ this
    · rw [List.getElem?_append_right (by omega)] at hi
      have := List.eq_of_mem_replicate (List.mem_of_getElem? hi)
      cases this
section Throws
variable {w : MC} {k : WC} {d mc ms : Nat} {y : MD} {n1 n2 pc : Nat} {L : List (Option AV)} {st : List AV} {h : AH} {PX : Prop}
theorem j_throwS {is : Nat} {tx : String} (hc : Cx w k d mc ms y) (ht : Thr w mc ms h PX) (hPX : PX) (hy : y.1.cls = RX10) (hm : (is, tx) ∈ strL) (d0 : decode y.2.1 pc = .ok (.new 146, 3)) (d3 : decode y.2.1 (pc + 3) = .ok (.dup, 1)) (d4 : decode y.2.1 (pc + 4) = .ok (.ldc is, 2)) (d6 : decode y.2.1 (pc + 6) = .ok (.invokespecial 150, 3)) (d9 : decode y.2.1 (pc + 9) = .ok (.athrow, 1)) (hLl : L.length = y.2.2.1) (hd8 : 8 ≤ d) (h1 : n1 + 1 ≤ mc) (h2 : n2 + 6 ≤ ms) : J w n1 n2 pc L [] h := by
  obtain ⟨p, l, e, R, s, m, args, below, meth, c, Q, G, B, ρ0, h0⟩ := w
  obtain ⟨hx, hb, hml, hown, hts, hK, hlk, hBs, hnm, hfr, hlo, hce, hsl, hk, hret⟩ := hc
  obtain ⟨rfl, hz, hst, hex, hQ⟩ := ht
  intro ρ H locs ls hR hA hs hL hl hS
  obtain ⟨sa, hsa⟩ := hz.2.2.1 _ hm
  intro T hT X
  have hW := vx_throwS (p := p) (l := l) (e := e) (R := R) (s := s) (m := m) (args := args) (below := below) (meth := meth) (c := c) (H := H) (locs := locs) (cells := n1) (slots := n2) (Qc := fun _ _ _ _ => False) (XC := XCo G B ρ0 h0 PX) (free := fun q => B ≤ q) (mc := mc) (ms := ms) (cc := y.2.1) (own := RX10) (text := tx) (ik := 146) (is := is) (ic := 150) (sa := sa) (A := fun q => B ≤ q) (rest := []) (ls := ls) (pc := pc) hx hb hst (by rw [← hy]; exact hown) (hts _ nse_k) (hts _ nse_i) hsa (nse_at hts hz) nse_ot hz.1 hz.2.1 hS (by rw [hl.1, hLl, hml]) d0 d3 d4 d6 d9 (fun x hx => (hex x hx).elim) (by omega) (by show 0 + 82 ≤ R.locals; omega) (by omega) (by omega) hlk
    (fun t _ hsz hq => ⟨rfl, hPX, ⟨ρ, hA, hR.kept hq⟩, Nat.le_trans hS.1 hsz, fun q q1 q2 => (hq q (Nat.lt_of_lt_of_le q1 hS.1)).trans (hS.2.1 q q1 q2)⟩) (fun z hz => hS.2.2 z hz) h1 h2
  obtain ⟨t, a1, b1⟩ := hW T hT X
  exact ⟨t, a1, hQ t b1⟩
theorem j_throwSW {is : Nat} {tx : String} (hc : Cx w k d mc ms y) (ht : Thr w mc ms h PX) (hPX : PX) (hy : y.1.cls = RX10) (hm : (is, tx) ∈ strL) (d0 : decode y.2.1 pc = .ok (.new 146, 3)) (d3 : decode y.2.1 (pc + 3) = .ok (.dup, 1)) (d4 : decode y.2.1 (pc + 4) = .ok (.ldc_w is, 3)) (d6 : decode y.2.1 (pc + 7) = .ok (.invokespecial 150, 3)) (d9 : decode y.2.1 (pc + 10) = .ok (.athrow, 1)) (hLl : L.length = y.2.2.1) (hd8 : 8 ≤ d) (h1 : n1 + 1 ≤ mc) (h2 : n2 + 6 ≤ ms) : J w n1 n2 pc L [] h := by
  obtain ⟨p, l, e, R, s, m, args, below, meth, c, Q, G, B, ρ0, h0⟩ := w
  obtain ⟨hx, hb, hml, hown, hts, hK, hlk, hBs, hnm, hfr, hlo, hce, hsl, hk, hret⟩ := hc
  obtain ⟨rfl, hz, hst, hex, hQ⟩ := ht
  intro ρ H locs ls hR hA hs hL hl hS
  obtain ⟨sa, hsa⟩ := hz.2.2.1 _ hm
  intro T hT X
  have hW := vx_throwSW (p := p) (l := l) (e := e) (R := R) (s := s) (m := m) (args := args) (below := below) (meth := meth) (c := c) (H := H) (locs := locs) (cells := n1) (slots := n2) (Qc := fun _ _ _ _ => False) (XC := XCo G B ρ0 h0 PX) (free := fun q => B ≤ q) (mc := mc) (ms := ms) (cc := y.2.1) (own := RX10) (text := tx) (ik := 146) (is := is) (ic := 150) (sa := sa) (A := fun q => B ≤ q) (rest := []) (ls := ls) (pc := pc) hx hb hst (by rw [← hy]; exact hown) (hts _ nse_k) (hts _ nse_i) hsa (nse_at hts hz) nse_ot hz.1 hz.2.1 hS (by rw [hl.1, hLl, hml]) d0 d3 d4 d6 d9 (fun x hx => (hex x hx).elim) (by omega) (by show 0 + 82 ≤ R.locals; omega) (by omega) (by omega) hlk
    (fun t _ hsz hq => ⟨rfl, hPX, ⟨ρ, hA, hR.kept hq⟩, Nat.le_trans hS.1 hsz, fun q q1 q2 => (hq q (Nat.lt_of_lt_of_le q1 hS.1)).trans (hS.2.1 q q1 q2)⟩) (fun z hz => hS.2.2 z hz) h1 h2
  obtain ⟨t, a1, b1⟩ := hW T hT X
  exact ⟨t, a1, hQ t b1⟩
end Throws
