/-! ===== calls ===== -/
theorem tb_code {y : MD} (hm : Cond.code y.1 y.2.1 y.2.2.1 y.2.2.2 ∈ tb) : GoodIn tb (Cond.code y.1 y.2.1 y.2.2.1 y.2.2.2 :: tb) := fun w hw => by
  rcases List.mem_cons.mp hw with rfl | hw
  · exact ⟨hm, tb_good _ hm⟩
  · exact ⟨hw, tb_good _ hw⟩
def okMD (y : MD) (n : Nat) : Prop := (y.1.cls ≠ "java/lang/invoke/MethodHandle" ∧ y.1.cls ≠ "java/lang/invoke/VarHandle" ∧ (parseMethodDescriptor y.1.desc).map (fun d => d.parameters.length) = some n) ∧ y.2.2.1 ≤ 60 ∧ Cond.code y.1 y.2.1 y.2.2.1 y.2.2.2 ∈ tb ∧ Cond.initialized y.1.cls ∈ tb
def SV (own : String) (idx ci n : Nat) (y : MD) : Prop := (∃ r : vw_C, vwCl[ci]? = some r ∧ Cond.selects r.1 y.1 y.1 ∈ tb) ∧ Cond.methodLink own idx y.1 ∈ tb ∧ Cond.instanceMethod y.1 ∈ tb ∧ okMD y n
def SU (own : String) (idx ci n : Nat) (owner : String) (x : MethodName) (y : MD) : Prop := (∃ r : vw_C, vwCl[ci]? = some r ∧ Cond.selects r.1 x y.1 ∈ tb) ∧ Cond.methodLink own idx x ∈ tb ∧ Cond.sameMethod x.cls owner x.name x.desc ∈ tb ∧ Cond.instanceMethod y.1 ∈ tb ∧ y.1 = ⟨owner, x.name, x.desc⟩ ∧ okMD y n
def SS (own : String) (idx n : Nat) (y : MD) : Prop := Cond.methodLink own idx y.1 ∈ tb ∧ Cond.static y.1 ∈ tb ∧ okMD y n
def SSU (own : String) (idx n : Nat) (x : MethodName) (y : MD) : Prop := Cond.methodLink own idx x ∈ tb ∧ Cond.sameMethod x.cls y.1.cls x.name x.desc ∈ tb ∧ Cond.static y.1 ∈ tb ∧ okMD y n
def SI (own : String) (idx n : Nat) (y : MD) : Prop := Cond.methodLink own idx y.1 ∈ tb ∧ Cond.instanceMethod y.1 ∈ tb ∧ y.1.name = "<init>" ∧ y.2.2.2 = none ∧ okMD y n
def SSN (own : String) (idx n : Nat) (y : MD) : Prop := (own, idx, y.1, RX10) ∈ nestL ∧ Cond.static y.1 ∈ tb ∧ okMD y n
def SIN (own : String) (idx n : Nat) (y : MD) : Prop := (own, idx, y.1, RX10) ∈ nestL ∧ Cond.instanceMethod y.1 ∈ tb ∧ y.1.name = "<init>" ∧ y.2.2.2 = none ∧ okMD y n
theorem PcOf.blind {G : GG} {B : Nat} {ρ : Nm → Nat} {h : AH} {as : List AV} : FrameBlind (PcOf G B ρ h as) := fun a U g mk hp => ⟨hp.1, hp.2.1, hp.2.2.1, hp.2.2.2.1.vm rfl, hp.2.2.2.2⟩
section CRules
variable {w : MC} {k : WC} {d mc ms : Nat} {y : MD} {n1 n2 pc : Nat} {L : List (Option AV)} {st : List AV} {h : AH}
theorem call_fin {p : Program} {l : Launch} {e : Env} {R : Room} {s : State} {m : MethodId} {args : Array Value} {below : List Frame} {meth : Method} {c : Code} {Q : State → Prop} {G : GG} {B : Nat} {ρ0 : Nm → Nat} {h0 : AH} {ρ : Nm → Nat} {H : Heap} {locs : List Loc} {ls : Array Slot} {mc' ms' : Nat} {Post : Option AV → AH → Prop} {av : Array Value} {st0 : List Value}
    (hA : Ag h0 ρ0 h ρ) (hs : ∀ v ∈ st, Cl h v) (hL : ∀ v, some v ∈ L → Cl h v) (hl : LV ρ ls L) (hS : va_S (fun q => B ≤ q) s.heap H locs)
    (hr : va_Run p l e R s m args below meth c H locs n1 n2 mc' ms' (F0 m pc ls st0) (st.map (val ρ)) (QcOf G B ρ h Post av) (fun q => B ≤ q))
    (kk : ∀ (r : Option AV) (h' : AH), Post r h' → J (p, l, e, R, s, m, args, below, meth, c, Q, G, B, ρ0, h0) (n1 + mc') (n2 + ms') (pc + 3) L (r.toList ++ st) h') :
    W p l e R s m args below meth c H locs n1 n2 Q (F0 m pc ls st0) := by
  intro T hT X
  obtain ⟨v, st₀, t, T', Lc, g0, X', hLc, e1, e2, ⟨⟨ρ', r, h', hAg, hv, hp, hcl, hR'⟩, hz, hkeep⟩, hgo⟩ := hr T hT X
  cases hv
  rw [g0] at hz hkeep
  have hcs : ∀ v ∈ r.toList ++ st, Cl h' v := fun v hv => by
    rcases List.mem_append.mp hv with q | q
    · exact hcl v (Option.mem_toList.mp q)
    · exact (Cl.ag hAg (hs v q)).1
  have K := kk r h' hp ρ' T'.heap (locs ++ Lc) ls (by rw [e1]; exact hR') (hA.tr hAg) hcs (fun v hv => (Cl.ag hAg (hL v hv)).1) ⟨hl.1, hl.2.1, fun i v hi => by rw [(Cl.ag hAg (hL v (List.mem_of_getElem? hi))).2]; exact hl.2.2 i v hi⟩
    ⟨Nat.le_trans hS.1 (by rw [e1]; exact hz), fun q g1 g2 => by rw [e1, hkeep q (Nat.lt_of_lt_of_le g1 hS.1) g2]; exact hS.2.1 q g1 g2, fun q hq => by
      rcases List.mem_append.mp hq with q1 | q1
      · exact hS.2.2 q q1
      · exact hLc q q1⟩
  have em : (r.toList ++ st).map (val ρ') = (r.map (val ρ')).toList ++ st.map (val ρ) := by
    rw [List.map_append, ag_map hAg hs]
    cases r <;> rfl
  rw [em] at K
  obtain ⟨t2, a1, b1⟩ := K T' rfl X'
  exact ⟨t2, hgo t2 a1, b1⟩
theorem j_callV {idx : Nat} {n9 : Nm} {ci : Nat} {fs : List AV} {d' n mc' ms' : Nat} {as : List AV} {y' : MD} {st0 : List AV} {Post : Option AV → AH → Prop} (hc : Cx w k d mc ms y) (hd : decode y.2.1 pc = .ok (.invokevirtual idx, 3)) (hs0 : SV y.1.cls idx ci n y') (hh : h n9 = some (oO ci fs)) (he : Ev k d' y' h (vR n9 :: as) mc' ms' Post) (hst : st0 = as.reverse ++ vR n9 :: st) (hd' : d' + 1 ≤ d) (h1 : n1 + mc' ≤ mc) (h2 : n2 + ms' ≤ ms) (hLl : L.length = y.2.2.1) (hn : as.length = n) (hw : (st.map vcat).sum ≤ 8) (kk : ∀ (r : Option AV) (h' : AH), Post r h' → J w (n1 + mc') (n2 + ms') (pc + 3) L (r.toList ++ st) h') : J w n1 n2 pc L st0 h := by
  obtain ⟨p, l, e, R, s, m, args, below, meth, c, Q, G, B, ρ0, h0⟩ := w
  obtain ⟨hx, hb, hml, hown, hts, hK, hlk, hBs, hnm, hfr, hlo, hce, hsl, rfl, hret⟩ := hc
  intro ρ H locs ls hR hA hs hL hl hS
  subst hst
  subst hn
  obtain ⟨⟨r, hr, hsel⟩, hlink, hinst, hok⟩ := hs0
  obtain ⟨⟨r', hr', hlen, cell, q1, q2, q3, q4⟩, -, -⟩ := hR.1 n9 _ hh
  cases hr.symm.trans hr'
  have hcas : ∀ v ∈ vR n9 :: as, Cl h v := fun v hv => hs v (by
    rcases List.mem_cons.mp hv with rfl | hv
    · exact List.mem_append_right _ List.mem_cons_self
    · exact List.mem_append_left _ (List.mem_reverse.mpr hv))
  have hs' : ∀ v ∈ st, Cl h v := fun v hv => hs v (List.mem_append_right _ (List.mem_cons_of_mem _ hv))
  have hcat : ((st.map (val ρ)).map fun v => v.category).sum ≤ 8 := by
    rw [List.map_map]
    have e9 : ((fun v : Value => v.category) ∘ val ρ) = vcat := funext fun v => val_cat ρ v
    rw [e9]; exact hw
  refine call_fin hA hs' hL hl hS (va_runV (C := r.1) (As := as.map (val ρ)) (b := ρ n9) ⟨hx, hb, hml, hown, hts⟩ (he ρ) ⟨callB_of as.length hts (tb_code hok.2.2.1) rfl rfl rfl (hts _ hok.2.2.2) (hts _ hlink) hok.1 ⟨by show d' + 1 ≤ R.frames; omega, by show 8 + (y'.2.2.1 + 11) + 100 * d' ≤ R.locals; have := hok.2.1; omega⟩, hts _ hinst, hts _ hsel⟩ ⟨PcOf.blind, ⟨cell, q1, by rw [q3]; rfl, by rw [q2]; exact (hK.1.1 ci _ hr).2.1⟩, fun U hU hW => ⟨by simp [val], hcas, by rw [hU]; exact hR, hK.warm hW, by rw [hU]; exact Nat.le_trans hBs hS.1⟩⟩ rfl (by simp) (by show ls.size = y.2.2.1; rw [hl.1]; exact hLl) (by show ((as.reverse ++ vR n9 :: st).map (val ρ)) = (as.map (val ρ)).reverse ++ .ref (ρ n9) :: st.map (val ρ); simp [val]) (by show 2 * 0 + _ ≤ 8; rw [Nat.mul_zero, Nat.zero_add]; exact hcat) hd ⟨Nat.le_trans h1 hce, Nat.le_trans h2 hsl⟩) kk
theorem j_callU {idx : Nat} {n9 : Nm} {ci : Nat} {fs : List AV} {owner : String} {x9 : MethodName} {d' n mc' ms' : Nat} {as : List AV} {y' : MD} {st0 : List AV} {Post : Option AV → AH → Prop} (hc : Cx w k d mc ms y) (hd : decode y.2.1 pc = .ok (.invokevirtual idx, 3)) (hs0 : SU y.1.cls idx ci n owner x9 y') (hh : h n9 = some (oO ci fs)) (he : Ev k d' y' h (vR n9 :: as) mc' ms' Post) (hst : st0 = as.reverse ++ vR n9 :: st) (hd' : d' + 1 ≤ d) (h1 : n1 + mc' ≤ mc) (h2 : n2 + ms' ≤ ms) (hLl : L.length = y.2.2.1) (hn : as.length = n) (hw : (st.map vcat).sum ≤ 8) (kk : ∀ (r : Option AV) (h' : AH), Post r h' → J w (n1 + mc') (n2 + ms') (pc + 3) L (r.toList ++ st) h') : J w n1 n2 pc L st0 h := by
  obtain ⟨p, l, e, R, s, m, args, below, meth, c, Q, G, B, ρ0, h0⟩ := w
  obtain ⟨hx, hb, hml, hown, hts, hK, hlk, hBs, hnm, hfr, hlo, hce, hsl, rfl, hret⟩ := hc
  intro ρ H locs ls hR hA hs hL hl hS
  subst hst
  subst hn
  obtain ⟨⟨r, hr, hsel⟩, hlink, hsame, hinst, hyx, hok⟩ := hs0
  obtain ⟨⟨r', hr', hlen, cell, q1, q2, q3, q4⟩, -, -⟩ := hR.1 n9 _ hh
  cases hr.symm.trans hr'
  have hcas : ∀ v ∈ vR n9 :: as, Cl h v := fun v hv => hs v (by
    rcases List.mem_cons.mp hv with rfl | hv
    · exact List.mem_append_right _ List.mem_cons_self
    · exact List.mem_append_left _ (List.mem_reverse.mpr hv))
  have hs' : ∀ v ∈ st, Cl h v := fun v hv => hs v (List.mem_append_right _ (List.mem_cons_of_mem _ hv))
  have hcat : ((st.map (val ρ)).map fun v => v.category).sum ≤ 8 := by
    rw [List.map_map]
    have e9 : ((fun v : Value => v.category) ∘ val ρ) = vcat := funext fun v => val_cat ρ v
    rw [e9]; exact hw
  have hyd : y'.1.desc = x9.desc := by rw [hyx]
  have hyc : y'.1.cls = owner := by rw [hyx]
  have hcw : va_CU R s args y.1.cls r.1 owner idx x9 y'.1 y'.2.1 y'.2.2.1 y'.2.2.2 (Cond.code y'.1 y'.2.1 y'.2.2.1 y'.2.2.2 :: tb) (rmD d' mc' ms') mc' ms' as.length := by
    refine ⟨⟨rfl, rfl, by show d' + 1 ≤ R.frames; omega, by show 8 + (y'.2.2.1 + 11) + 100 * d' ≤ R.locals; have := hok.2.1; omega, pay_in hts (tb_code hok.2.2.1), List.mem_cons_self⟩, hts _ hok.2.2.1, hts _ hok.2.2.2, ⟨hyc ▸ hok.1.1, hyc ▸ hok.1.2.1⟩, fun sig hsig => ?_, hts _ hlink, hts _ hsame, ?_, hts _ hsel, hts _ hinst⟩
    · have h9 := hok.1.2.2
      rw [hyd, hsig] at h9
      exact (Option.some.inj h9).symm
    · rw [← hyx]; exact va_Decl.of (hts _ hinst) (hts _ hok.2.2.1)
  refine call_fin hA hs' hL hl hS (va_runU (C := r.1) (As := as.map (val ρ)) (b := ρ n9) ⟨hx, hb, hml, hown, hts⟩ (he ρ) hcw ⟨PcOf.blind, ⟨cell, q1, by rw [q3]; rfl, by rw [q2]; exact (hK.1.1 ci _ hr).2.1⟩, fun U hU hW => ⟨by simp [val], hcas, by rw [hU]; exact hR, hK.warm hW, by rw [hU]; exact Nat.le_trans hBs hS.1⟩⟩ rfl (by simp) (by show ls.size = y.2.2.1; rw [hl.1]; exact hLl) (by show ((as.reverse ++ vR n9 :: st).map (val ρ)) = (as.map (val ρ)).reverse ++ .ref (ρ n9) :: st.map (val ρ); simp [val]) (by show 2 * 0 + _ ≤ 8; rw [Nat.mul_zero, Nat.zero_add]; exact hcat) hd ⟨Nat.le_trans h1 hce, Nat.le_trans h2 hsl⟩) kk
theorem j_callS {idx : Nat} {d' n mc' ms' : Nat} {as : List AV} {y' : MD} {st0 : List AV} {Post : Option AV → AH → Prop} (hc : Cx w k d mc ms y) (hd : decode y.2.1 pc = .ok (.invokestatic idx, 3)) (hs0 : SS y.1.cls idx n y') (he : Ev k d' y' h as mc' ms' Post) (hst : st0 = as.reverse ++ st) (hd' : d' + 1 ≤ d) (h1 : n1 + mc' ≤ mc) (h2 : n2 + ms' ≤ ms) (hLl : L.length = y.2.2.1) (hn : as.length = n) (hw : (st.map vcat).sum ≤ 8) (kk : ∀ (r : Option AV) (h' : AH), Post r h' → J w (n1 + mc') (n2 + ms') (pc + 3) L (r.toList ++ st) h') : J w n1 n2 pc L st0 h := by
  obtain ⟨p, l, e, R, s, m, args, below, meth, c, Q, G, B, ρ0, h0⟩ := w
  obtain ⟨hx, hb, hml, hown, hts, hK, hlk, hBs, hnm, hfr, hlo, hce, hsl, rfl, hret⟩ := hc
  intro ρ H locs ls hR hA hs hL hl hS
  subst hst
  subst hn
  obtain ⟨hlink, hstat, hok⟩ := hs0
  have hcas : ∀ v ∈ as, Cl h v := fun v hv => hs v (List.mem_append_left _ (List.mem_reverse.mpr hv))
  have hs' : ∀ v ∈ st, Cl h v := fun v hv => hs v (List.mem_append_right _ hv)
  have hcat : ((st.map (val ρ)).map fun v => v.category).sum ≤ 8 := by
    rw [List.map_map]
    have e9 : ((fun v : Value => v.category) ∘ val ρ) = vcat := funext fun v => val_cat ρ v
    rw [e9]; exact hw
  refine call_fin hA hs' hL hl hS (va_runS (As := as.map (val ρ)) ⟨hx, hb, hml, hown, hts⟩ (he ρ) ⟨callB_of as.length hts (tb_code hok.2.2.1) rfl rfl rfl (hts _ hok.2.2.2) (hts _ hlink) hok.1 ⟨by show d' + 1 ≤ R.frames; omega, by show 8 + (y'.2.2.1 + 11) + 100 * d' ≤ R.locals; have := hok.2.1; omega⟩, hts _ hstat⟩ ⟨PcOf.blind, fun U hU hW => ⟨rfl, hcas, by rw [hU]; exact hR, hK.warm hW, by rw [hU]; exact Nat.le_trans hBs hS.1⟩⟩ rfl (by simp) (by show ls.size = y.2.2.1; rw [hl.1]; exact hLl) (by show ((as.reverse ++ st).map (val ρ)) = (as.map (val ρ)).reverse ++ st.map (val ρ); simp) (by show 2 * 0 + _ ≤ 8; rw [Nat.mul_zero, Nat.zero_add]; exact hcat) hd ⟨Nat.le_trans h1 hce, Nat.le_trans h2 hsl⟩) kk
theorem j_callSN {idx : Nat} {d' n mc' ms' : Nat} {as : List AV} {y' : MD} {st0 : List AV} {Post : Option AV → AH → Prop} (hc : Cx w k d mc ms y) (hd : decode y.2.1 pc = .ok (.invokestatic idx, 3)) (hs0 : SSN y.1.cls idx n y') (he : Ev k d' y' h as mc' ms' Post) (hst : st0 = as.reverse ++ st) (hd' : d' + 1 ≤ d) (h1 : n1 + mc' ≤ mc) (h2 : n2 + ms' ≤ ms) (hLl : L.length = y.2.2.1) (hn : as.length = n) (hw : (st.map vcat).sum ≤ 8) (kk : ∀ (r : Option AV) (h' : AH), Post r h' → J w (n1 + mc') (n2 + ms') (pc + 3) L (r.toList ++ st) h') : J w n1 n2 pc L st0 h := by
  obtain ⟨p, l, e, R, s, m, args, below, meth, c, Q, G, B, ρ0, h0⟩ := w
  obtain ⟨hx, hb, hml, hown, hts, hK, hlk, hBs, hnm, hfr, hlo, hce, hsl, rfl, hret⟩ := hc
  intro ρ H locs ls hR hA hs hL hl hS
  subst hst
  subst hn
  obtain ⟨hlink, hstat, hok⟩ := hs0
  have hcn := va_cnB (R := R) (args := args) (rm := rmD d' mc' ms') as.length hts (tb_code hok.2.2.1) rfl rfl rfl (hK.2.2.2.2 _ hlink) (hts _ hok.2.2.2) hok.1 ⟨by show d' + 1 ≤ R.frames; omega, by show 8 + (y'.2.2.1 + 11) + 100 * d' ≤ R.locals; have := hok.2.1; omega⟩
  have hcas : ∀ v ∈ as, Cl h v := fun v hv => hs v (List.mem_append_left _ (List.mem_reverse.mpr hv))
  have hs' : ∀ v ∈ st, Cl h v := fun v hv => hs v (List.mem_append_right _ hv)
  have hcat : ((st.map (val ρ)).map fun v => v.category).sum ≤ 8 := by
    rw [List.map_map]
    have e9 : ((fun v : Value => v.category) ∘ val ρ) = vcat := funext fun v => val_cat ρ v
    rw [e9]; exact hw
  refine call_fin hA hs' hL hl hS (va_runSN (As := as.map (val ρ)) ⟨hx, hb, hml, hown, hts⟩ (he ρ) ⟨hcn, hts _ hstat, trivial⟩ ⟨PcOf.blind, fun U hU hW => ⟨rfl, hcas, by rw [hU]; exact hR, hK.warm hW, by rw [hU]; exact Nat.le_trans hBs hS.1⟩⟩ rfl (by simp) (by show ls.size = y.2.2.1; rw [hl.1]; exact hLl) (by show ((as.reverse ++ st).map (val ρ)) = (as.map (val ρ)).reverse ++ st.map (val ρ); simp) (by show 2 * 0 + _ ≤ 8; rw [Nat.mul_zero, Nat.zero_add]; exact hcat) hd ⟨Nat.le_trans h1 hce, Nat.le_trans h2 hsl⟩) kk
theorem j_callI {idx : Nat} {n9 : Nm} {d' n mc' ms' : Nat} {as : List AV} {y' : MD} {st0 : List AV} {Post : Option AV → AH → Prop} (hc : Cx w k d mc ms y) (hd : decode y.2.1 pc = .ok (.invokespecial idx, 3)) (hs0 : SI y.1.cls idx n y') (he : Ev k d' y' h (vR n9 :: as) mc' ms' Post) (hst : st0 = as.reverse ++ vR n9 :: st) (hd' : d' + 1 ≤ d) (h1 : n1 + mc' ≤ mc) (h2 : n2 + ms' ≤ ms) (hLl : L.length = y.2.2.1) (hn : as.length = n) (hw : (st.map vcat).sum ≤ 8) (kk : ∀ (r : Option AV) (h' : AH), Post r h' → J w (n1 + mc') (n2 + ms') (pc + 3) L (r.toList ++ st) h') : J w n1 n2 pc L st0 h := by
  obtain ⟨p, l, e, R, s, m, args, below, meth, c, Q, G, B, ρ0, h0⟩ := w
  obtain ⟨hx, hb, hml, hown, hts, hK, hlk, hBs, hnm, hfr, hlo, hce, hsl, rfl, hret⟩ := hc
  intro ρ H locs ls hR hA hs hL hl hS
  subst hst
  subst hn
  obtain ⟨hlink, hinst, hnm', hrn, hok⟩ := hs0
  have hcas : ∀ v ∈ vR n9 :: as, Cl h v := fun v hv => hs v (by
    rcases List.mem_cons.mp hv with rfl | hv
    · exact List.mem_append_right _ List.mem_cons_self
    · exact List.mem_append_left _ (List.mem_reverse.mpr hv))
  have hs' : ∀ v ∈ st, Cl h v := fun v hv => hs v (List.mem_append_right _ (List.mem_cons_of_mem _ hv))
  have hcat : ((st.map (val ρ)).map fun v => v.category).sum ≤ 8 := by
    rw [List.map_map]
    have e9 : ((fun v : Value => v.category) ∘ val ρ) = vcat := funext fun v => val_cat ρ v
    rw [e9]; exact hw
  obtain ⟨yn, cc', nL', ret'⟩ := y'
  dsimp only at hrn
  subst hrn
  refine call_fin hA hs' hL hl hS (va_runI (As := as.map (val ρ)) (b := ρ n9) ⟨hx, hb, hml, hown, hts⟩ (he ρ) ⟨callB_of as.length hts (tb_code hok.2.2.1) rfl rfl rfl (hts _ hok.2.2.2) (hts _ hlink) hok.1 ⟨by show d' + 1 ≤ R.frames; omega, by show 8 + (nL' + 11) + 100 * d' ≤ R.locals; have := hok.2.1; dsimp only at this; omega⟩, hnm', hts _ hinst⟩ ⟨PcOf.blind, fun U hU hW => ⟨by simp [val], hcas, by rw [hU]; exact hR, hK.warm hW, by rw [hU]; exact Nat.le_trans hBs hS.1⟩⟩ rfl (by simp) (by show ls.size = y.2.2.1; rw [hl.1]; exact hLl) (by show ((as.reverse ++ vR n9 :: st).map (val ρ)) = (as.map (val ρ)).reverse ++ .ref (ρ n9) :: st.map (val ρ); simp [val]) (by show 2 * 0 + _ ≤ 8; rw [Nat.mul_zero, Nat.zero_add]; exact hcat) hd ⟨Nat.le_trans h1 hce, Nat.le_trans h2 hsl⟩) kk
theorem j_callIN {idx : Nat} {n9 : Nm} {d' n mc' ms' : Nat} {as : List AV} {y' : MD} {st0 : List AV} {Post : Option AV → AH → Prop} (hc : Cx w k d mc ms y) (hd : decode y.2.1 pc = .ok (.invokespecial idx, 3)) (hs0 : SIN y.1.cls idx n y') (he : Ev k d' y' h (vR n9 :: as) mc' ms' Post) (hst : st0 = as.reverse ++ vR n9 :: st) (hd' : d' + 1 ≤ d) (h1 : n1 + mc' ≤ mc) (h2 : n2 + ms' ≤ ms) (hLl : L.length = y.2.2.1) (hn : as.length = n) (hw : (st.map vcat).sum ≤ 8) (kk : ∀ (r : Option AV) (h' : AH), Post r h' → J w (n1 + mc') (n2 + ms') (pc + 3) L (r.toList ++ st) h') : J w n1 n2 pc L st0 h := by
  obtain ⟨p, l, e, R, s, m, args, below, meth, c, Q, G, B, ρ0, h0⟩ := w
  obtain ⟨hx, hb, hml, hown, hts, hK, hlk, hBs, hnm, hfr, hlo, hce, hsl, rfl, hret⟩ := hc
  intro ρ H locs ls hR hA hs hL hl hS
  subst hst
  subst hn
  obtain ⟨hlink, hinst, hnm', hrn, hok⟩ := hs0
  have hcas : ∀ v ∈ vR n9 :: as, Cl h v := fun v hv => hs v (by
    rcases List.mem_cons.mp hv with rfl | hv
    · exact List.mem_append_right _ List.mem_cons_self
    · exact List.mem_append_left _ (List.mem_reverse.mpr hv))
  have hs' : ∀ v ∈ st, Cl h v := fun v hv => hs v (List.mem_append_right _ (List.mem_cons_of_mem _ hv))
  have hcat : ((st.map (val ρ)).map fun v => v.category).sum ≤ 8 := by
    rw [List.map_map]
    have e9 : ((fun v : Value => v.category) ∘ val ρ) = vcat := funext fun v => val_cat ρ v
    rw [e9]; exact hw
  obtain ⟨yn, cc', nL', ret'⟩ := y'
  dsimp only at hrn
  subst hrn
  have hcn := va_cnB (R := R) (args := args) (rm := rmD d' mc' ms') as.length hts (tb_code hok.2.2.1) rfl rfl rfl (hK.2.2.2.2 _ hlink) (hts _ hok.2.2.2) hok.1 ⟨by show d' + 1 ≤ R.frames; omega, by show 8 + (nL' + 11) + 100 * d' ≤ R.locals; have := hok.2.1; dsimp only at this; omega⟩
  refine call_fin hA hs' hL hl hS (va_runIN (As := as.map (val ρ)) (b := ρ n9) ⟨hx, hb, hml, hown, hts⟩ (he ρ) ⟨hcn, hnm', hts _ hinst⟩ ⟨PcOf.blind, fun U hU hW => ⟨by simp [val], hcas, by rw [hU]; exact hR, hK.warm hW, by rw [hU]; exact Nat.le_trans hBs hS.1⟩⟩ rfl (by simp) (by show ls.size = y.2.2.1; rw [hl.1]; exact hLl) (by show ((as.reverse ++ vR n9 :: st).map (val ρ)) = (as.map (val ρ)).reverse ++ .ref (ρ n9) :: st.map (val ρ); simp [val]) (by show 2 * 0 + _ ≤ 8; rw [Nat.mul_zero, Nat.zero_add]; exact hcat) hd ⟨Nat.le_trans h1 hce, Nat.le_trans h2 hsl⟩) kk
theorem j_objInit {idx : Nat} {n9 : Nm} (hc : Cx w k d mc ms y) (hd : decode y.2.1 pc = .ok (.invokespecial idx, 3)) (hm : Cond.methodLink y.1.cls idx Lib.objectInit ∈ tb) (hi : Cond.instanceMethod Lib.objectInit ∈ tb) (hco : Cond.code Lib.objectInit ⟨#[0xb1]⟩ 1 none ∈ tb) (hLl : L.length = y.2.2.1) (hd1 : 1 ≤ d) (hw : (st.map vcat).sum ≤ 8) (kk : J w n1 n2 (pc + 3) L st h) : J w n1 n2 pc L (vR n9 :: st) h := by
  obtain ⟨p, l, e, R, s, m, args, below, meth, c, Q, G, B, ρ0, h0⟩ := w
  obtain ⟨hx, hb, hml, hown, hts, hK, hlk, hBs, hnm, hfr, hlo, hce, hsl, rfl, hret⟩ := hc
  intro ρ H locs ls hR hA hs hL hl hS
  have hcat : ((st.map (val ρ)).map fun v => v.category).sum ≤ 8 := by
    rw [List.map_map]
    have e9 : ((fun v : Value => v.category) ∘ val ρ) = vcat := funext fun v => val_cat ρ v
    rw [e9]; exact hw
  exact W.objInit hx hb hown (hts _ hm) (hts _ hi) (hts _ hco) rfl (by show ls.size = _; rw [hl.1, hml]; exact hLl) rfl hd (by omega) (by show 2 * 0 + _ + 12 ≤ _; omega) (kk ρ H locs ls hR hA (fun v hv => hs v (List.mem_cons_of_mem _ hv)) hL hl hS)
theorem j_mmax {idx : Nat} {a b : Int} (hc : Cx w k d mc ms y) (hd : decode y.2.1 pc = .ok (.invokestatic idx, 3)) (hm : Cond.methodLink y.1.cls idx Lib.Math.max.name ∈ tb) (ho : Cond.static Lib.Math.max.name ∈ tb ∧ Cond.initialized "java/lang/Math" ∈ tb ∧ Cond.code Lib.Math.max.name Lib.Math.max.code 2 (some .int) ∈ tb) (ha : inI a) (hb0 : inI b) (h1 : n1 ≤ mc) (h2 : n2 ≤ ms) (hLl : L.length = y.2.2.1) (hd1 : 1 ≤ d) (hw : (st.map vcat).sum ≤ 8) (kk : J w n1 n2 (pc + 3) L (vI (max a b) :: st) h) : J w n1 n2 pc L (vI b :: vI a :: st) h := by
  obtain ⟨p, l, e, R, s, m, args, below, meth, c, Q, G, B, ρ0, h0⟩ := w
  obtain ⟨hx, hb, hml, hown, hts, hK, hlk, hBs, hnm, hfr, hlo, hce, hsl, rfl, hret⟩ := hc
  intro ρ H locs ls hR hA hs hL hl hS
  have hcat : ((st.map (val ρ)).map fun v => v.category).sum ≤ 8 := by
    rw [List.map_map]
    have e9 : ((fun v : Value => v.category) ∘ val ρ) = vcat := funext fun v => val_cat ρ v
    rw [e9]; exact hw
  have K := kk ρ H locs ls hR hA (List.forall_mem_cons.mpr ⟨trivial, fun v hv => hs v (List.mem_cons_of_mem _ (List.mem_cons_of_mem _ hv))⟩) hL hl hS
  have e9 : (if Int32.ofInt a < Int32.ofInt b then Int32.ofInt b else Int32.ofInt a) = Int32.ofInt (max a b) := by
    by_cases q : a < b
    · rw [if_pos ((i32_lt ha hb0).mpr q)]; congr 1; omega
    · rw [if_neg (fun z => q ((i32_lt ha hb0).mp z))]; congr 1; omega
  refine va_mmax hx hb (hml.trans (hLl.symm.trans hl.1.symm)) hown (hts _ hm) (hts _ ho.1) (hts _ ho.2.1) (hts _ ho.2.2) (by omega) (by omega) (by omega) (by omega) hd ?_
  rw [e9]
  exact K
theorem j_mmin {idx : Nat} {a b : Int} (hc : Cx w k d mc ms y) (hd : decode y.2.1 pc = .ok (.invokestatic idx, 3)) (hm : Cond.methodLink y.1.cls idx Lib.Math.min.name ∈ tb) (ho : Cond.static Lib.Math.min.name ∈ tb ∧ Cond.initialized "java/lang/Math" ∈ tb ∧ Cond.code Lib.Math.min.name Lib.Math.min.code 2 (some .int) ∈ tb) (ha : inI a) (hb0 : inI b) (h1 : n1 ≤ mc) (h2 : n2 ≤ ms) (hLl : L.length = y.2.2.1) (hd1 : 1 ≤ d) (hw : (st.map vcat).sum ≤ 8) (kk : J w n1 n2 (pc + 3) L (vI (min a b) :: st) h) : J w n1 n2 pc L (vI b :: vI a :: st) h := by
  obtain ⟨p, l, e, R, s, m, args, below, meth, c, Q, G, B, ρ0, h0⟩ := w
  obtain ⟨hx, hb, hml, hown, hts, hK, hlk, hBs, hnm, hfr, hlo, hce, hsl, rfl, hret⟩ := hc
  intro ρ H locs ls hR hA hs hL hl hS
  have hcat : ((st.map (val ρ)).map fun v => v.category).sum ≤ 8 := by
    rw [List.map_map]
    have e9 : ((fun v : Value => v.category) ∘ val ρ) = vcat := funext fun v => val_cat ρ v
    rw [e9]; exact hw
  have K := kk ρ H locs ls hR hA (List.forall_mem_cons.mpr ⟨trivial, fun v hv => hs v (List.mem_cons_of_mem _ (List.mem_cons_of_mem _ hv))⟩) hL hl hS
  have e9 : (if Int32.ofInt b < Int32.ofInt a then Int32.ofInt b else Int32.ofInt a) = Int32.ofInt (min a b) := by
    by_cases q : b < a
    · rw [if_pos ((i32_lt hb0 ha).mpr q)]; congr 1; omega
    · rw [if_neg (fun z => q ((i32_lt hb0 ha).mp z))]; congr 1; omega
  refine va_mmin hx hb (hml.trans (hLl.symm.trans hl.1.symm)) hown (hts _ hm) (hts _ ho.1) (hts _ ho.2.1) (hts _ ho.2.2) (by omega) (by omega) (by omega) (by omega) hd ?_
  rw [e9]
  exact K
theorem j_mmaxL {idx : Nat} {a b : Int} (hc : Cx w k d mc ms y) (hd : decode y.2.1 pc = .ok (.invokestatic idx, 3)) (hm : Cond.methodLink y.1.cls idx Lib.MathLoose.max_long.x ∈ tb) (ho : Cond.static Lib.MathLoose.max_long.x ∈ tb ∧ Cond.initialized "java/lang/Math" ∈ tb ∧ Cond.code Lib.MathLoose.max_long.x Lib.MathLoose.max_long.code 4 (some .long) ∈ tb) (ha : inL a) (hb0 : inL b) (h1 : n1 ≤ mc) (h2 : n2 ≤ ms) (hLl : L.length = y.2.2.1) (hd1 : 1 ≤ d) (hw : (st.map vcat).sum ≤ 8) (kk : J w n1 n2 (pc + 3) L (vL (max a b) :: st) h) : J w n1 n2 pc L (vL b :: vL a :: st) h := by
  obtain ⟨p, l, e, R, s, m, args, below, meth, c, Q, G, B, ρ0, h0⟩ := w
  obtain ⟨hx, hb, hml, hown, hts, hK, hlk, hBs, hnm, hfr, hlo, hce, hsl, rfl, hret⟩ := hc
  intro ρ H locs ls hR hA hs hL hl hS
  have hcat : ((st.map (val ρ)).map fun v => v.category).sum ≤ 8 := by
    rw [List.map_map]
    have e9 : ((fun v : Value => v.category) ∘ val ρ) = vcat := funext fun v => val_cat ρ v
    rw [e9]; exact hw
  have K := kk ρ H locs ls hR hA (List.forall_mem_cons.mpr ⟨trivial, fun v hv => hs v (List.mem_cons_of_mem _ (List.mem_cons_of_mem _ hv))⟩) hL hl hS
  refine va_mmax_long hx hb (hml.trans (hLl.symm.trans hl.1.symm)) hown (hts _ hm) (hts _ ho.1) (hts _ ho.2.1) (hts _ ho.2.2) (by omega) (by omega) (by omega) (by omega) hd ?_
  refine W.eq ?_ K
  show F0 _ _ _ (_ :: _) = F0 _ _ _ (Value.long (Int64.ofInt (max a b)) :: _)
  congr 3
  split
  · rename_i q
    first | (rw [i64_lt hb0 ha] at q; congr 1; omega) | (rw [i64_lt ha hb0] at q; congr 1; omega)
  · rename_i q
    first | (rw [i64_lt hb0 ha] at q; congr 1; omega) | (rw [i64_lt ha hb0] at q; congr 1; omega)
theorem j_mminL {idx : Nat} {a b : Int} (hc : Cx w k d mc ms y) (hd : decode y.2.1 pc = .ok (.invokestatic idx, 3)) (hm : Cond.methodLink y.1.cls idx Lib.MathLoose.min_long.x ∈ tb) (ho : Cond.static Lib.MathLoose.min_long.x ∈ tb ∧ Cond.initialized "java/lang/Math" ∈ tb ∧ Cond.code Lib.MathLoose.min_long.x Lib.MathLoose.min_long.code 4 (some .long) ∈ tb) (ha : inL a) (hb0 : inL b) (h1 : n1 ≤ mc) (h2 : n2 ≤ ms) (hLl : L.length = y.2.2.1) (hd1 : 1 ≤ d) (hw : (st.map vcat).sum ≤ 8) (kk : J w n1 n2 (pc + 3) L (vL (min a b) :: st) h) : J w n1 n2 pc L (vL b :: vL a :: st) h := by
  obtain ⟨p, l, e, R, s, m, args, below, meth, c, Q, G, B, ρ0, h0⟩ := w
  obtain ⟨hx, hb, hml, hown, hts, hK, hlk, hBs, hnm, hfr, hlo, hce, hsl, rfl, hret⟩ := hc
  intro ρ H locs ls hR hA hs hL hl hS
  have hcat : ((st.map (val ρ)).map fun v => v.category).sum ≤ 8 := by
    rw [List.map_map]
    have e9 : ((fun v : Value => v.category) ∘ val ρ) = vcat := funext fun v => val_cat ρ v
    rw [e9]; exact hw
  have K := kk ρ H locs ls hR hA (List.forall_mem_cons.mpr ⟨trivial, fun v hv => hs v (List.mem_cons_of_mem _ (List.mem_cons_of_mem _ hv))⟩) hL hl hS
  refine va_mmin_long hx hb (hml.trans (hLl.symm.trans hl.1.symm)) hown (hts _ hm) (hts _ ho.1) (hts _ ho.2.1) (hts _ ho.2.2) (by omega) (by omega) (by omega) (by omega) hd ?_
  refine W.eq ?_ K
  show F0 _ _ _ (_ :: _) = F0 _ _ _ (Value.long (Int64.ofInt (min a b)) :: _)
  congr 3
  split
  · rename_i q
    first | (rw [i64_lt hb0 ha] at q; congr 1; omega) | (rw [i64_lt ha hb0] at q; congr 1; omega)
  · rename_i q
    first | (rw [i64_lt hb0 ha] at q; congr 1; omega) | (rw [i64_lt ha hb0] at q; congr 1; omega)
end CRules
