/-! ===== a NoSuchElementException with a text is made and thrown, by a launch without stack traces. Composed of the library's laws, by their names; the words are the library's list for a first link at any index (Bundle.ownAtomsX); here nothing old has been written (locs = []), which is all that the class needs ===== -/
def nseN : String := "java/util/NoSuchElementException"
def nseV : List String := ["java/lang/RuntimeException", "java/lang/Exception"]
abbrev iniS (c : String) : MethodName := ⟨c, "<init>", "(Ljava/lang/String;)V"⟩
abbrev nseC : ByteArray := prog_22_method_4_code
theorem nseC_0 : decode nseC 0 = .ok (.aload_n 0, 1) := by decide +kernel
theorem nseC_1 : decode nseC 1 = .ok (.aload_n 1, 1) := by decide +kernel
theorem nseC_2 : decode nseC 2 = .ok (.invokespecial 13, 3) := by decide +kernel
theorem nseC_5 : decode nseC 5 = .ok (.return_, 1) := by decide +kernel
def nseW (own : String) (ic : Nat) : List Cond := Bundle.ownAtomsX own ic nseN 13 nseC nseV
section NzField
variable {args : Array Value} {s : State} {C : String} {zc zc1 zc2 : ClassId} {zk zk1 zk2 : Class}
/-- a fresh object takes v in a field that its class lays -/
theorem nz_takes {O n d : String} {i : Nat} {f : Field} {v : Value} (hc : s.vm.findClass C = some zc) (hk : s.vm.classes[zc]? = some zk) (ho : zk.kind = .ordinary) (hf : s.fieldFound? O n d = some (zc1, zk1, i, f)) (hw : (Cond.lays C O n d).before args s = true) (hv : fits f.type v = true) : Takes s (freshCell zc zk) f v :=
  Takes.of_laid hk ho (Cond.laysAt hc hk hf hw).1 hv
/-- two fields of other names lie at other slots -/
theorem nz_apart {O P n1 d1 n2 d2 : String} {i j : Nat} {f g : Field} (hc : s.vm.findClass C = some zc) (hk : s.vm.classes[zc]? = some zk) (hf : s.fieldFound? O n1 d1 = some (zc1, zk1, i, f)) (hg : s.fieldFound? P n2 d2 = some (zc2, zk2, j, g)) (wf : (Cond.lays C O n1 d1).before args s = true) (wg : (Cond.lays C P n2 d2).before args s = true) (hne : f.name ≠ g.name) : f.slot ≠ g.slot :=
  (Cond.laysAt hc hk hf wf).2.elim fun _ zp => (Cond.laysAt hc hk hg wg).2.elim fun _ zq => Cond.laysApart zp.1 zq.1 zp.2 zq.2 hne
/-- a class that selects its own method x -/
theorem nz_sel {l : Launch} {e : Env} {x : MethodName} {zm : MethodId} (hA : l.admits e) (hc : s.vm.findClass C = some zc) (hx : s.methodNamed? x = some zm) (hp : x.cls ≠ "java/lang/invoke/MethodHandle" ∧ x.cls ≠ "java/lang/invoke/VarHandle") (hw : (Cond.selects C x x).before args s = true) : selectMethod e.platform s.vm zc zm = .method zm := by
  obtain ⟨a1, a2, a3, e1, e2, e3, e4, -⟩ := Cond.selects_spec hw
  rw [hc] at e1
  rw [State.methodFound?_of_named hx hp] at e2
  rw [hx] at e3
  rw [← Option.some.inj e1, ← Option.some.inj e2, ← Option.some.inj e3] at e4
  rw [Launch.admits_selectMethod hA, e4]
end NzField
/-- a slot that isn't the written one -/
theorem nz_slot (ce : Cell) {i j : Nat} (v : Value) (h : i ≠ j) : (ce.setSlot i v).slots[j]? = ce.slots[j]? := Array.getElem?_setIfInBounds_ne h
section NzStand
variable {p : Program} {l : Launch} {e : Env} {R : Room} {s : State} {m : MethodId} {args : Array Value} {below : List Frame} {meth : Method} {c : Code} {T : State} {n1 n2 : Nat}
/-- where nothing old was written, an old cell is as it was -/
theorem nz_kept (X : Stand p l e R s m args below meth c T [] n1 n2) {q : Addr} {ce : Cell} (h : s.heap[q]? = some ce) : T.heap[q]? = some ce := by
  obtain ⟨c9, e1, e2, -, e4⟩ := X.same.2.2.2.2.2 q ce h
  have es : c9.slots = ce.slots := Array.ext_getElem? fun i => e4 i (fun hm => nomatch hm)
  rw [es] at e2
  have e5 : T.heap[q]? = some c9 := e1
  rw [e5, e2]
set_option maxHeartbeats 4000000 in
theorem nse_throw (X : Stand p l e R s m args below meth c T [] n1 n2) (hexec : p.tables.exec = Jvm.exec) (htr : e.platform.stackTraces = false) {own : String} {ic : Nat} (hown : s.vm.findClass own = some m.cls) (h : ∀ w ∈ nseW own ic, w.before args s = true)
    {q : Addr} {zc : ClassId} {zk : Class} (hc : s.vm.findClass nseN = some zc) (hk : s.vm.classes[zc]? = some zk) (hq : T.heap[q]? = some (freshCell zc zk)) (hnew : s.heap.size ≤ q) {sa pc : Nat} {ls : Array Slot} {rest : List Value} (hls : ls.size = c.maxLocals)
    (d1 : decode c.code pc = .ok (.invokespecial ic, 3)) (d2 : decode c.code (pc + 3) = .ok (.athrow, 1)) (hout : ∀ x ∈ c.exceptionTable.toList, covers x (pc + 3) = false) (hfr : 5 < R.frames) (hlo : (rest.map fun v => v.category).sum + 82 ≤ R.locals) (hlk : meth.locks = false) :
    ∃ (U : State) (ce : Cell), Steps p.tables e below (T.setTop (F0 m pc ls (.ref sa :: .ref q :: .ref q :: rest))) U ∧ U.status = .running ∧ Ended U below (.threw q) ∧ s.WarmedH U.vm ∧ s.sameButNew ({ U with vm := s.vm } : State) [] n1 n2 ∧ U.heap[q]? = some ce ∧ ce.vm = .none ∧ s.vm.findClass nseN = some ce.cls := by
  have hpl : e.platform.magicAccessors = ({} : Platform).magicAccessors := by rw [X.admits.platform]
  have hg : ∀ w : Cond, w ∈ nseW own ic → w.before args s = true := h
  -- Throwable, its constructor with a text, the three constructors that pass the text on
  obtain ⟨Th, Z0, hTh, -, ti⟩ := ThrowableC.of_atoms (args := args) (s := s) (pl := e.platform) (by rw [X.admits.platform]) (by rw [X.admits.platform]) hpl (fun w hw => hg w (by simp [nseW, Bundle.ownAtomsX, hw]))
  obtain ⟨Zi, Mi, hZi, hMi, hnZ⟩ := Init0T.ofS_atoms (args := args) hpl hTh ti (fun w hw => hg w (by simp [nseW, Bundle.ownAtomsX, hw]))
  obtain ⟨Pa, Pr, hPn, hPa, hPr, hPm, hl1, hl2⟩ := Bundle.chainSX (args := args) hpl hnZ nseC_0 nseC_1 nseC_2 nseC_5 nseV nseN (by decide) (by decide) (fun w hw => hg w (by simp [nseW, Bundle.ownAtomsX, hw]))
  obtain ⟨b1, b2, hb1, hb2, hord, -⟩ := Cond.instantiable_spec (hg (.instantiable nseN 6) (by simp [nseW, Bundle.ownAtomsX]))
  have hord : zk.kind = .ordinary := by
    rw [hc] at hb1
    rw [← Option.some.inj hb1, hk] at hb2
    rw [Option.some.inj hb2]; exact hord
  -- the fields that it lays
  have wC : (Cond.lays nseN Bundle.tN "cause" "Ljava/lang/Throwable;").before args s = true := hg _ (by simp [nseW, Bundle.ownAtomsX])
  have wS : (Cond.lays nseN Bundle.tN "stackTrace" Bundle.steD).before args s = true := hg _ (by simp [nseW, Bundle.ownAtomsX])
  have wP : (Cond.lays nseN Bundle.tN "suppressedExceptions" Bundle.listD).before args s = true := hg _ (by simp [nseW, Bundle.ownAtomsX])
  have wM : (Cond.lays nseN Bundle.tN "detailMessage" "Ljava/lang/String;").before args s = true := hg _ (by simp [nseW, Bundle.ownAtomsX])
  have wB : (Cond.lays nseN Bundle.tN "backtrace" "Ljava/lang/Object;").before args s = true := hg _ (by simp [nseW, Bundle.ownAtomsX])
  obtain ⟨zi, hfM⟩ := ti.msg
  -- the two statics, as they lie now
  obtain ⟨ceS, hS, hiss⟩ := ti.statics
  obtain ⟨zu, hzu⟩ := Cond.staticRefV ti.unassigned hTh.unassignedStatic hTh.statics hS hiss (hg (.isRef (.static Bundle.tN "UNASSIGNED_STACK" Bundle.steD)) (by simp [nseW, Bundle.ownAtomsX]))
  obtain ⟨zn, hzn⟩ := Cond.staticRefV ti.sentinel hTh.sentinelStatic hTh.statics hS hiss (hg (.isRef (.static Bundle.tN "SUPPRESSED_SENTINEL" Bundle.listD)) (by simp [nseW, Bundle.ownAtomsX]))
  have hne : Th.aS ≠ q := fun z => by
    have hlt := (Array.getElem?_eq_some_iff.mp hS).1
    rw [z] at hlt
    exact absurd hlt (Nat.not_lt.mpr hnew)
  have hkn : ceS.vm ≠ .unknown := fun z => by
    rw [z] at hiss
    exact Bool.noConfusion hiss
  -- 'backtrace' is null in it
  obtain ⟨zb1, zb2, fB, g1, g2, g3, g4, -, g6, g7, g8⟩ := Cond.ownField (t := .object "java/lang/Object") ti.found hTh.cls (by decide +kernel) (hg (.fieldLink Bundle.tN 198 Bundle.tN "backtrace" "Ljava/lang/Object;") (by simp [nseW, Bundle.ownAtomsX])) (hg (.lays Bundle.tN Bundle.tN "backtrace" "Ljava/lang/Object;") (by simp [nseW, Bundle.ownAtomsX])) e.platform hpl
  have hnull : ((preparedCellV Th.toThrowableT (freshCell zc zk) q zu zn).withEntry T.cur).slots[fB.slot]? = some .null := by
    show (preparedCellV Th.toThrowableT (freshCell zc zk) q zu zn).slots[fB.slot]? = some .null
    rw [nz_slot _ _ (nz_apart hc hk ti.supp g8 wP wB (by rw [ti.suppName, g6]; decide)), nz_slot _ _ (nz_apart hc hk ti.stack g8 wS wB (by rw [ti.stackName, g6]; decide)), nz_slot _ _ (nz_apart hc hk ti.cause g8 wC wB (by rw [ti.causeName, g6]; decide)), fresh_default (Cond.laysAt hc hk g8 wB).1, g7]
    rfl
  -- the call of its constructor, the constructors, the throw
  obtain ⟨zm, -, -, -, vm1, hzm, -, -, -, -, -, -, -, hW1, st1⟩ := Steps.initColdS (tb := p.tables) (e := e) (below := below) (s := s) (U := T) (args := args) X.here hexec X.warmed hpl hown (t := iniS nseN) rfl rfl (by decide)
    (hg (.methodLink own ic (iniS nseN)) (by simp [nseW, Bundle.ownAtomsX, Bundle.initS])) (bytes := nseC) (maxL := 2) (hg (.instanceMethod (iniS nseN)) (by simp [nseW, nseV, Bundle.ownAtomsX, Bundle.chainSAtomsX, Bundle.passSAtoms, Bundle.initS])) (hg (.code (iniS nseN) nseC 2 none) (by simp [nseW, nseV, Bundle.ownAtomsX, Bundle.chainSAtomsX, Bundle.passSAtoms, Bundle.initS]))
    (f := F0 m pc ls (.ref sa :: .ref q :: .ref q :: rest)) rfl (a := q) (msg := .ref sa) (rest := .ref q :: rest) rfl d1
  have hzP : zm = Pa.m := Option.some.inj (hzm.symm.trans hPm)
  have X1 := X.noted hW1
  obtain ⟨vm2, X2, st2⟩ := X1.ctorMessageOffV hexec (g := F0 m pc ls (.ref q :: rest)) rfl hls Th hTh Zi hZi Mi hMi (Pa :: Pr) (fun z hz => (List.mem_cons.mp hz).elim (fun ez => by rw [ez]; exact hPa) (hPr z)) ⟨hl1, hl2⟩ (u0 := zu) (sen := zn) (self := q) (msg := .ref sa) rfl (cell := freshCell zc zk) (cellS := ceS)
    hq (fun _ z => nomatch z) (fun z => nomatch z) rfl rfl (nz_sel X.admits hc ti.fill0 (by decide) (hg (.selects nseN Bundle.tFill0 Bundle.tFill0) (by simp [nseW, Bundle.ownAtomsX]))) (nz_sel X.admits hc ti.fill (by decide) (hg (.selects nseN Bundle.tFill Bundle.tFill) (by simp [nseW, Bundle.ownAtomsX])))
    (nz_kept X hS) hne hkn hzu hzn (nz_takes hc hk hord ti.cause wC (by rw [ti.causeType]; rfl)) (nz_takes hc hk hord ti.stack wS (by rw [ti.stackType]; exact fits_refV_array _ zu)) (nz_takes hc hk hord ti.supp wP (by rw [ti.suppType]; exact fits_refV_object _ zn)) (nz_takes hc hk hord hfM wM (by rw [ti.msgType]; rfl)) ti.objLocals
    ⟨⟨zb1, zb2, fB⟩, ⟨g1, g2, g3, g4⟩, hnull, fun _ _ => rfl⟩ htr [] d1 (by rw [List.length_cons, hPn]; show 2 + 1 + 2 < _; omega) (by
      rw [List.length_cons, hPn]
      show 2 * 0 + (((Value.ref q :: rest).map fun v => v.category).sum) + (13 * (2 + 1) + 42) ≤ R.locals
      have z1 : (Value.ref q).category = 1 := rfl
      rw [List.map_cons, List.sum_cons, z1]; omega)
  obtain ⟨hw, hrun, hend, hWU, hsm⟩ := X2.athrowLeaves hexec (g := F0 m (pc + 3) ls (.ref q :: rest)) rfl rfl rfl hout (a := q) (rest := rest) rfl d2 hlk
  refine ⟨_, _, st1 _ (fun acts => ?_), hrun, hend, hWU, hsm.weaken (fun y hy hlt => ?_) (Nat.le_refl _) (Nat.le_refl _), heapAt_setCell_self (s := (T.setVm vm1).setVm vm2) _ (Array.getElem?_eq_some_iff.mp hq).1, rfl, hc⟩
  · rw [doInvoke_state, hzP]
    exact st2 _ hw
  · have hb : y.base = q := by
      simp only [List.nil_append, List.mem_cons, List.not_mem_nil, or_false] at hy
      rcases hy with z | z | z | z | z <;> rw [z]
    rw [hb] at hlt
    exact absurd hlt (Nat.not_lt.mpr hnew)
end NzStand
