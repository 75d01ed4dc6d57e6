/-! ===== a call with much below it on the stack ===== -/
section WRules
variable {p : Program} {l : Launch} {e : Env} {R : Room} {s : State} {m : MethodId} {args : Array Value} {below : List Frame} {meth : Method} {c : Code} {H : Heap} {locs : List Loc} {cells slots : Nat}
theorem run_vw {y : MethodName} {bytes cc : ByteArray} {maxL nL mc ms n index : Nat} {ret : Option FieldType} {ws : List Cond} {rm : Room} {Pc : Array Value → State → Prop} {Qc : Array Value → State → Outcome → State → Prop} {free : Addr → Prop} {Ts : List Cond} {own C : String} {b : Addr} {As rest : List Value} {g : JFrame} (S : CallFix p m c cc nL s args Ts own) (hM : Met l y ws rm Pc Qc mc ms free) (cw : CallW R s args own C index y bytes maxL ret ws rm mc ms n) (hlo : 20 + (maxL + 11) + rm.locals ≤ R.locals) (hp : PreV s H C b Pc As)
    (hg : g.method = m) (hn : As.length = n) (hsize : g.locals.size = nL) (hstack : g.stack = As.reverse ++ .ref b :: rest) (hW : 2 * g.monitorRoom + (rest.map fun v => v.category).sum ≤ 20) (hdg : decode cc g.pc = .ok (.invokevirtual index, 3)) (hf : cells + mc ≤ R.cells ∧ slots + ms ≤ R.slots) :
    va_Run p l e R s m args below meth c H locs cells slots mc ms g rest (Qc (Value.ref b :: As).toArray) (free) := by
  obtain ⟨⟨hrc, hrs, hfr, -, hws, hcw, hcode, hini, hy, hlen, hl⟩, hin, hse⟩ := cw
  have hK : Back l R p e below s args y 3 20 (PreOf R mc ms Pc) (PostOf Qc mc ms free) := back_of (bytes := bytes) (maxL := maxL) (ret := ret) hM hp.1 hrc hrs hfr hlo hws hcw (fun a' U hW => word_at hW (Or.inl (by first | rfl | simp [Cond.onTables, Cond.keeps, Cond.steady])) hini)
  obtain ⟨hx, hb, hml, ho, -⟩ := S
  obtain ⟨-, ⟨cellB, hcB, hoB, hclB⟩, hPc⟩ := hp
  intro T hT X
  obtain ⟨v, vm₁, ⟨U', l2, c2, s2⟩, hW₁, X', ⟨g', mk, t, L, e1, e2, hq, h1, hL, h2, h3⟩, st⟩ := callV X hx (C := C) (bytes := bytes) (maxL := maxL) (ret := ret) ho hl hin hse hcode hy hK (by rw [hT]; exact hcB) hoB hclB hg (hsize.trans hml.symm) (argsL := As) (rest := rest) (fun sig h => hn.trans (hlen sig h)) hstack hW (by rw [hb]; exact hdg)
    (fun vm₁ hW₁ => ⟨hf.1, hf.2, hPc (T.setVm vm₁) hT hW₁⟩)
  dsimp only [Pt.U, Pt.locs, Pt.cells, Pt.slots] at X' e1 e2 h1 h2 h3 st
  subst h1; subst h2; subst h3
  exact ⟨v, (T.setVm vm₁).calling g' mk (Value.ref b :: As).toArray, t, U', L, hT, X', hL, e1, e2, hq, st⟩
end WRules
section WRules2
variable {w : MC} {k : WC} {d mc ms : Nat} {y : MD} {n1 n2 pc : Nat} {L : List (Option AV)} {st : List AV} {h : AH}
theorem j_callVW {idx : Nat} {n9 : Nm} {ci : Nat} {fs : List AV} {d' n mc' ms' : Nat} {as : List AV} {y' : MD} {st0 : List AV} {Post : Option AV → AH → Prop} (hc : Cx w k d mc ms y) (hd : decode y.2.1 pc = .ok (.invokevirtual idx, 3)) (hs0 : SV y.1.cls idx ci n y') (hh : h n9 = some (oO ci fs)) (he : Ev k d' y' h (vR n9 :: as) mc' ms' Post) (hst : st0 = as.reverse ++ vR n9 :: st) (hd' : d' + 1 ≤ d) (h1 : n1 + mc' ≤ mc) (h2 : n2 + ms' ≤ ms) (hLl : L.length = y.2.2.1) (hn : as.length = n) (hw : (st.map vcat).sum ≤ 20) (kk : ∀ (r : Option AV) (h' : AH), Post r h' → J w (n1 + mc') (n2 + ms') (pc + 3) L (r.toList ++ st) h') : J w n1 n2 pc L st0 h := by
  obtain ⟨p, l, e, R, s, m, args, below, meth, c, Q, G, B, ρ0, h0⟩ := w
  obtain ⟨hx, hb, hml, hown, hts, hK, hlk, hBs, hnm, hfr, hlo, hce, hsl, rfl, hret⟩ := hc
  intro ρ H locs ls hR hA hs hL hl hS
  subst hst
  subst hn
  obtain ⟨⟨r, hr, hsel⟩, hlink, hinst, hok⟩ := hs0
  obtain ⟨⟨r', hr', hlen, cell, q1, q2, q3, q4⟩, -, -⟩ := hR.1 n9 _ hh
  cases hr.symm.trans hr'
  have hcas : ∀ v ∈ vR n9 :: as, Cl h v := fun v hv => hs v (by
    rcases List.mem_cons.mp hv with rfl | hv
    · exact List.mem_append_right _ List.mem_cons_self
    · exact List.mem_append_left _ (List.mem_reverse.mpr hv))
  have hs' : ∀ v ∈ st, Cl h v := fun v hv => hs v (List.mem_append_right _ (List.mem_cons_of_mem _ hv))
  have hcat : ((st.map (val ρ)).map fun v => v.category).sum ≤ 20 := by
    rw [List.map_map]
    have e9 : ((fun v : Value => v.category) ∘ val ρ) = vcat := funext fun v => val_cat ρ v
    rw [e9]; exact hw
  refine call_fin hA hs' hL hl hS (run_vw (C := r.1) (As := as.map (val ρ)) (b := ρ n9) ⟨hx, hb, hml, hown, hts⟩ (he ρ) ⟨callB_of as.length hts (tb_code hok.2.2.1) rfl rfl rfl (hts _ hok.2.2.2) (hts _ hlink) hok.1 ⟨by show d' + 1 ≤ R.frames; omega, by show 8 + (y'.2.2.1 + 11) + 100 * d' ≤ R.locals; have := hok.2.1; omega⟩, hts _ hinst, hts _ hsel⟩ (by show 20 + (y'.2.2.1 + 11) + 100 * d' ≤ R.locals; have := hok.2.1; omega) ⟨PcOf.blind, ⟨cell, q1, by rw [q3]; rfl, by rw [q2]; exact (hK.1.1 ci _ hr).2.1⟩, fun U hU hW => ⟨by simp [val], hcas, by rw [hU]; exact hR, hK.warm hW, by rw [hU]; exact Nat.le_trans hBs hS.1⟩⟩ rfl (by simp) (by show ls.size = y.2.2.1; rw [hl.1]; exact hLl) (by show ((as.reverse ++ vR n9 :: st).map (val ρ)) = (as.map (val ρ)).reverse ++ .ref (ρ n9) :: st.map (val ρ); simp [val]) (by show 2 * 0 + _ ≤ 20; rw [Nat.mul_zero, Nat.zero_add]; exact hcat) hd ⟨Nat.le_trans h1 hce, Nat.le_trans h2 hsl⟩) kk
end WRules2
