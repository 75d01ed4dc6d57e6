/-! ===== more rules: static calls of a superclass's method, arrays of references, clone, checkcast, arraycopy ===== -/
section SUp
variable {Q : Unit → Pre} {E : CtlPost} {e : Env} {d : Bool} {acts : List Action} {s s₀ : State} {f : JFrame}
theorem ist_up {index ci n c : Nat} {m : MethodId} {dk ck : Class} {cf : ClassFile} {name desc : String} (hs : s.topJava?.isSome) (hp : e.platform.polymorphicOnlyByInvokevirtual = true)
    (hW : s₀.WarmedH s.vm) (hE : s₀.MethodEntryUp e s.vm f.method.cls index c m ci) (h1 : s₀.vm.classes[f.method.cls]? = some dk) (h2 : dk.cf = some cf)
    (h3 : cf.constantPool[index]? = some (.methodref ci n)) (h4 : cf.constantPool.nameAndType? n = some (name, desc))
    (hck : s₀.vm.classes[c]? = some ck) (hnone : (ck.methods.any fun x => x.name == name && !x.isStatic && signaturePolymorphic ck x) = false) :
    wp (invokestatic.sem index) Q E e d acts (s.setTop f) ↔ wp (invokestatic.sem index) Q E e d acts ((s.setVm (s.vm.calledUp f.method.cls ci index c m)).setTop f) := by
  have q3 : cf.constantPool[index]? = some (if false then .interfaceMethodref ci n else .methodref ci n) := h3
  obtain ⟨ka, ha, ea⟩ := hW.alike.2.2 _ _ h1
  obtain ⟨kb, hb, eb⟩ := hE.warmed.alike.2.2 _ _ h1
  obtain ⟨g1, g2, hW1, g3⟩ := hE.classFirst
  obtain ⟨ca, hca, eca⟩ := hW1.alike.2.2 _ _ hck
  obtain ⟨cb, hcb, ecb⟩ := hE.warmed.alike.2.2 _ _ hck
  have r1 := memberRef_ask_via (e := e) ha (by rw [ea]; exact h2) q3 h4
  have r2 := memberRef_ask_via (e := e) hb (by rw [eb]; exact h2) q3 h4
  have n1 : (ca.methods.any fun x => x.name == name && !x.isStatic && signaturePolymorphic ca x) = false := by rw [eca]; exact hnone
  have n2 : (cb.methods.any fun x => x.name == name && !x.isStatic && signaturePolymorphic cb x) = false := by rw [ecb]; exact hnone
  have t1 : (s.setVm (s.vm.noted f.method.cls ci (.cls c))).topJava?.isSome := hs
  have t2 : (s.setVm (s.vm.calledUp f.method.cls ci index c m)).topJava?.isSome := hs
  have u1 : ∀ {Q' : ClassId → Pre} {d' : Bool} {acts' : List Action}, wp (Jvm.resolveClassAt ci) Q' E e d' acts' (s.setTop f) ↔ Q' c d' acts' ((s.setVm (s.vm.noted f.method.cls ci (.cls c))).setTop f) :=
    W.resolveClassAt_links (t := s.setTop f) (State.method?_setTop f hs) g1
  have u2 : ∀ {Q' : MethodId → Pre} {d' : Bool} {acts' : List Action}, wp (Jvm.resolveMethodAt index) Q' E e d' acts' ((s.setVm (s.vm.noted f.method.cls ci (.cls c))).setTop f) ↔ Q' m d' acts' ((s.setVm (s.vm.calledUp f.method.cls ci index c m)).setTop f) :=
    W.resolveMethodAt_links (t := (s.setVm (s.vm.noted f.method.cls ci (.cls c))).setTop f) (State.method?_setTop f t1) g3
  simp [invokestatic.sem, hp, Seam.memberRefOf, State.method?_setTop f hs, State.method?_setTop f t2, r1, r2, u1, W.resolveClassAt_ready (s := (s.setVm (s.vm.calledUp f.method.cls ci index c m)).setTop f) (State.method?_setTop f t2) hE.classReady,
    hca, hcb, n1, n2, u2, W.resolveMethodAt_ready (s := (s.setVm (s.vm.calledUp f.method.cls ci index c m)).setTop f) (State.method?_setTop f t2) hE.ready, -Array.any_eq_true]
end SUp
section SUp2
variable {p : Program} {l : Launch} {e : Env} {R : Room} {s : State} {m : MethodId} {args : Array Value} {below : List Frame} {meth : Method} {c : Code} {T : State} {H : Heap} {locs : List Loc} {cells slots : Nat}
theorem st_up (X : Stand p l e R s m args below meth c T locs cells slots) (hexec : p.tables.exec = Jvm.exec) {own owner : String} {index : Nat} {x : MethodName} (hown : s.vm.findClass own = some m.cls) (hlink : (Cond.methodLink own index x).before args s = true)
    (hsame : (Cond.sameMethod x.cls owner x.name x.desc).before args s = true) (howner : owner ≠ "java/lang/invoke/MethodHandle" ∧ owner ≠ "java/lang/invoke/VarHandle")
    {m' : MethodId} {meth' : Method} {k' : Class} (hn : s.methodNamed? ⟨owner, x.name, x.desc⟩ = some m') (hm' : s.vm.method? m' = some meth') (hstatic : meth'.isStatic = true)
    (hk' : s.vm.classes[m'.cls]? = some k') (hinit : k'.init = .initialized)
    {g : JFrame} (hg : g.method = m) {argsL rest : List Value} (hlen : argsL.length = meth'.sig.parameters.length) (hstack : g.stack = argsL.reverse ++ rest) (hdg : decode c.code g.pc = .ok (.invokestatic index, 3)) :
    ∃ vm', Stand p l e R s m args below meth c (T.setVm vm') locs cells slots ∧
      ∀ target, (∀ acts, Steps p.tables e below (doInvoke e ((T.setVm vm').setTop { g with stack := rest }) acts m' argsL.toArray).1 target) → Steps p.tables e below (T.setTop g) target := by
  have pl1 : e.platform.magicAccessors = ({} : Platform).magicAccessors := by rw [X.admits.platform]
  have pl2 : e.platform.polymorphicOnlyByInvokevirtual = true := by rw [X.admits.platform]
  obtain ⟨cn, ck, r1, hcn, hck, hni, hf, hn1⟩ := Cond.sameMethod_found hsame
  cases hn.symm.trans hn1
  obtain ⟨ci, hl, hright⟩ := Cond.methodLink_specUp hown hcn hck hni hf hlink e.platform pl1 (by rw [X.admits.platform])
  have hE : s.MethodEntryUp e T.vm m.cls index cn m' ci := State.methodEntryUp X.warmed hl hright
  obtain ⟨kx, hkx, hnx⟩ := className_of_methodNamed hn
  cases hk'.symm.trans hkx
  obtain ⟨dk, cfile, nt, mname, mdesc, ck', _, _, hd, hcf, hcp, hnt, -, -, hck', -, hnopoly, -⟩ := hl.here
  cases hck.symm.trans hck'
  have al := hE.warmed.alike
  obtain ⟨d2, hd2, ed2⟩ := al.2.2 _ _ hd
  obtain ⟨k2, hk2, ek2⟩ := al.2.2 _ _ hk'
  obtain ⟨c2, hc2, ec2⟩ := al.2.2 _ _ hck
  have nn : (ck.methods.any fun y => y.name == mname && !y.isStatic && signaturePolymorphic ck y) = false := by simp [hnopoly]
  have nn2 : (c2.methods.any fun y => y.name == mname && !y.isStatic && signaturePolymorphic c2 y) = false := by rw [ec2]; exact nn
  have hcp' : cfile.constantPool[index]? = some (if false then .interfaceMethodref ci nt else .methodref ci nt) := hcp
  refine ⟨T.vm.calledUp m.cls ci index cn m', X.noted hE.warmed, fun target hrest => ?_⟩
  subst hg
  jvm_step X.here [hexec, hdg, ist_up (e := e) (s := T) (s₀ := s) (f := g) X.here.top pl2 X.warmed hE hd hcf hcp hnt hck nn,
    invokestatic.wp_ready (e := e) (s := T.setVm (T.vm.calledUp g.method.cls ci index cn m')) (k := k2) (meth := meth') (m := m') (args := argsL) (rest := rest) (f := g)
      X.here.top ⟨ci, mname, mdesc, false, cn, c2, memberRef_ask_via (e := e) hd2 (by rw [ed2]; exact hcf) hcp' hnt, hE.classReady, hc2, nn2⟩ hE.ready hk2
      (by show (T.vm.calledUp g.method.cls ci index cn m').method? m' = some meth'; rw [al.method?]; exact hm')
      (by rw [ek2]; show signaturePolymorphic k' meth' = false; simp [signaturePolymorphic, hnx, howner.1, howner.2]) hstatic (by rw [ek2]; exact hinit) hlen hstack]
  exact fun acts => hrest _
theorem run_su {x y : MethodName} {bytes cc : ByteArray} {maxL nL mc ms n index : Nat} {ret : Option FieldType} {ws : List Cond} {rm : Room} {Pc : Array Value → State → Prop} {Qc : Array Value → State → Outcome → State → Prop} {free : Addr → Prop} {Ts : List Cond} {own : String} {As rest : List Value} {g : JFrame}
    (S : CallFix p m c cc nL s args Ts own) (hM : Met l y ws rm Pc Qc mc ms free) (hrc : rm.cells = mc) (hrs : rm.slots = ms) (hfr : rm.frames + 1 ≤ R.frames) (hlo : 8 + (maxL + 11) + rm.locals ≤ R.locals) (hws : ∀ w ∈ ws, ∀ (a' : Array Value) (U : State), s.WarmedH U.vm → w.before a' U = true) (hcw : Cond.code y bytes maxL ret ∈ ws)
    (hcode : (Cond.code y bytes maxL ret).before args s = true) (hini : (Cond.initialized y.cls).before args s = true) (hy : y.cls ≠ "java/lang/invoke/MethodHandle" ∧ y.cls ≠ "java/lang/invoke/VarHandle") (hyx : y = ⟨y.cls, x.name, x.desc⟩) (hlen : ∀ sig, parseMethodDescriptor x.desc = some sig → n = sig.parameters.length)
    (hl : (Cond.methodLink own index x).before args s = true) (hsame : (Cond.sameMethod x.cls y.cls x.name x.desc).before args s = true) (hstat : (Cond.static y).before args s = true) (hp : PreS s H Pc As)
    (hg : g.method = m) (hn : As.length = n) (hsize : g.locals.size = nL) (hstack : g.stack = As.reverse ++ rest) (hW : 2 * g.monitorRoom + (rest.map fun v => v.category).sum ≤ 8) (hdg : decode cc g.pc = .ok (.invokestatic index, 3)) (hf : cells + mc ≤ R.cells ∧ slots + ms ≤ R.slots) :
    va_Run p l e R s m args below meth c H locs cells slots mc ms g rest (Qc As.toArray) (free) := by
  have hK : Back l R p e below s args y 3 8 (PreOf R mc ms Pc) (PostOf Qc mc ms free) := back_of (bytes := bytes) (maxL := maxL) (ret := ret) hM hp.1 hrc hrs hfr hlo hws hcw (fun a' U hW => word_at hW (Or.inl (by first | rfl | simp [Cond.onTables, Cond.keeps, Cond.steady])) hini)
  obtain ⟨hx, hb, hml, ho, -⟩ := S
  have hPc := hp.2
  intro T hT X
  obtain ⟨mk, hnamed⟩ := Cond.code_named hcode
  obtain ⟨methM, cM, hmethM, -, -, -, -, -, -, hsigM⟩ := Cond.code_spec hnamed hcode
  have hstatic : methM.isStatic = true := Cond.static_spec hnamed hmethM hstat
  obtain ⟨kP, hkP, -⟩ := className_of_methodNamed hnamed
  have hinitP : kP.init = .initialized := Cond.initialized_spec (findClass_of_methodNamed hnamed) hkP hini
  have hdesc : y.desc = x.desc := by rw [hyx]
  obtain ⟨vm₁, X₁, hstep₁⟩ := st_up X hx ho hl hsame hy (m' := mk) (by rw [← hyx]; exact hnamed) hmethM hstatic hkP hinitP (g := g) hg (argsL := As) (rest := rest) (hn.trans (hlen _ (by rw [← hdesc]; exact hsigM))) hstack (by rw [hb]; exact hdg)
  obtain ⟨v, ⟨U', l2, c2, s2⟩, X', ⟨g', mk', t, L, e1, e2, hq, h1, hL, h2, h3⟩, hsteps⟩ := hK m meth c ⟨T.setVm vm₁, locs, cells, slots⟩ { g with stack := rest } (.invokestatic index) mk As.toArray X₁ hg (hsize.trans hml.symm) (by rw [hb]; exact hdg) hW (X₁.named hnamed) ⟨hf.1, hf.2, hPc (T.setVm vm₁) hT X₁.warmed⟩
  dsimp only [Pt.U, Pt.locs, Pt.cells, Pt.slots] at X' e1 e2 h1 h2 h3 hsteps
  subst h1; subst h2; subst h3
  exact ⟨v, (T.setVm vm₁).calling g' mk' As.toArray, t, U', L, hT, X', hL, e1, e2, hq, fun target h => hstep₁ _ fun acts => by rw [doInvoke_state]; exact hsteps.trans h⟩
end SUp2
section Rules2
variable {w : MC} {k : WC} {d mc ms : Nat} {y : MD} {n1 n2 pc : Nat} {L : List (Option AV)} {st : List AV} {h : AH}
theorem j_callSU {idx : Nat} {x9 : MethodName} {d' n mc' ms' : Nat} {as : List AV} {y' : MD} {st0 : List AV} {Post : Option AV → AH → Prop} (hc : Cx w k d mc ms y) (hd : decode y.2.1 pc = .ok (.invokestatic idx, 3)) (hs0 : SSU y.1.cls idx n x9 y') (hyx : y'.1 = ⟨y'.1.cls, x9.name, x9.desc⟩) (he : Ev k d' y' h as mc' ms' Post) (hst : st0 = as.reverse ++ st) (hd' : d' + 1 ≤ d) (h1 : n1 + mc' ≤ mc) (h2 : n2 + ms' ≤ ms) (hLl : L.length = y.2.2.1) (hn : as.length = n) (hw : (st.map vcat).sum ≤ 8) (kk : ∀ (r : Option AV) (h' : AH), Post r h' → J w (n1 + mc') (n2 + ms') (pc + 3) L (r.toList ++ st) h') : J w n1 n2 pc L st0 h := by
  obtain ⟨p, l, e, R, s, m, args, below, meth, c, Q, G, B, ρ0, h0⟩ := w
  obtain ⟨hx, hb, hml, hown, hts, hK, hlk, hBs, hnm, hfr, hlo, hce, hsl, rfl, hret⟩ := hc
  intro ρ H locs ls hR hA hs hL hl hS
  subst hst
  subst hn
  obtain ⟨hlink, hsame, hstat, hok⟩ := hs0
  have hcas : ∀ v ∈ as, Cl h v := fun v hv => hs v (List.mem_append_left _ (List.mem_reverse.mpr hv))
  have hs' : ∀ v ∈ st, Cl h v := fun v hv => hs v (List.mem_append_right _ hv)
  have hcat : ((st.map (val ρ)).map fun v => v.category).sum ≤ 8 := by
    rw [List.map_map]
    have e9 : ((fun v : Value => v.category) ∘ val ρ) = vcat := funext fun v => val_cat ρ v
    rw [e9]; exact hw
  have hyd : y'.1.desc = x9.desc := by rw [hyx]
  refine call_fin hA hs' hL hl hS (run_su (x := x9) (As := as.map (val ρ)) (rm := rmD d' mc' ms') (n := as.length) ⟨hx, hb, hml, hown, hts⟩ (he ρ) rfl rfl (by show d' + 1 ≤ R.frames; omega) (by show 8 + (y'.2.2.1 + 11) + 100 * d' ≤ R.locals; have := hok.2.1; omega) (pay_in hts (tb_code hok.2.2.1)) List.mem_cons_self (hts _ hok.2.2.1) (hts _ hok.2.2.2) ⟨hok.1.1, hok.1.2.1⟩ hyx (fun sig hsig => by
      have h9 := hok.1.2.2
      rw [hyd, hsig] at h9
      exact (Option.some.inj h9).symm) (hts _ hlink) (hts _ hsame) (hts _ hstat) ⟨PcOf.blind, fun U hU hW => ⟨rfl, hcas, by rw [hU]; exact hR, hK.warm hW, by rw [hU]; exact Nat.le_trans hBs hS.1⟩⟩ rfl (by simp) (by show ls.size = y.2.2.1; rw [hl.1]; exact hLl) (by show ((as.reverse ++ st).map (val ρ)) = (as.map (val ρ)).reverse ++ st.map (val ρ); simp) (by show 2 * 0 + _ ≤ 8; rw [Nat.mul_zero, Nat.zero_add]; exact hcat) hd ⟨Nat.le_trans h1 hce, Nat.le_trans h2 hsl⟩) kk
end Rules2
