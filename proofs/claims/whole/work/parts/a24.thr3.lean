/-! ===== the law's methods that catch ===== -/
def Zc (w : MC) (hh : List (Nat × Nat × Nat × Nat)) : Prop := match w with
  | (p, l, e, R, s, m, args, below, meth, c, Q, G, B, ρ0, h0) => ZX B s ∧ c.exceptionTable.toList = tableOf hh
def EvW (k : WC) (d : Nat) (y : MD) (hh : List (Nat × Nat × Nat × Nat)) (h : AH) (as : List AV) (mc ms : Nat) (Post : Option AV → AH → Prop) : Prop :=
  ∀ ρ, Met k.1 y.1 (.codeWith y.1 y.2.1 y.2.2.1 y.2.2.2 hh :: tb) (rmD d mc ms) (PcX k.2.1 k.2.2 ρ h as) (QcOf k.2.1 k.2.2 ρ h Post) mc ms (fun q => k.2.2 ≤ q)
theorem EvW.mk {k : WC} {d : Nat} {y : MD} {hh : List (Nat × Nat × Nat × Nat)} {h : AH} {as : List AV} {mc ms : Nat} {Post : Option AV → AH → Prop} (hy : plainName y.1.cls = true) (L : List (Option AV)) (hL : L = ent as ++ List.replicate (y.2.2.1 - (ent as).length) none) (hle : (ent as).length ≤ y.2.2.1)
    (body : ∀ w : MC, Cx w k d mc ms y → Ends w mc ms Post → Zc w hh → J w 0 0 0 L [] h) : EvW k d y hh h as mc ms Post := by
  obtain ⟨l, G, B⟩ := k
  obtain ⟨yn, cc, nL, ret⟩ := y
  intro ρ
  refine va_MetW (cc := cc) (maxL := nL) (ret := ret) (hh := hh) hy rfl ?_
  intro p e s m args below meth c s₁ B' hml hv
  obtain ⟨⟨rfl, hcl, hR, hK, hB⟩, hz⟩ := hv
  have hts := atoms_spec (ws := Cond.codeWith yn cc nL ret hh :: tb) B'.pre
  have hown : s.vm.findClass yn.cls = some m.cls := findClass_of_methodNamed B'.named
  have hnm : meth.name = yn.name := (name_of_methodNamed B'.named B'.method).1
  have hlocks := B'.notSynchronized
  have K := body (p, l, e, rmD d mc ms, s, m, (as.map (val ρ)).toArray, below, meth, c, MQ below (QcOf G B ρ h Post) (as.map (val ρ)).toArray s mc ms (fun q => B ≤ q), G, B, ρ, h)
    ⟨B'.exec, B'.bytes, hml, hown, fun x hx => hts x (List.mem_cons_of_mem _ hx), hK, hlocks, hB, hnm, Nat.le_refl _, Nat.le_refl _, Nat.le_refl _, Nat.le_refl _, rfl, B'.returns⟩ (fun _ ht => ht)
    ⟨hz, vx_table (x := yn) B' (hts _ List.mem_cons_self)⟩
  have hl := lv_entry (as.map (val ρ)) (n := nL) (by rw [ent_len]; exact hle)
  rw [lg_entry_eq]
  generalize (lg_sl (as.map (val ρ)) ++ List.replicate (nL - (lg_sl (as.map (val ρ))).length) Slot.unset).toArray = ls at hl ⊢
  have hLen : L.length = nL := by rw [hL]; simp; dsimp only at hle; omega
  refine K ρ s.heap [] ls hR (Ag.rf h ρ) (fun v hv => by cases hv) (fun v hv => ?_) ⟨by rw [hLen]; exact hl.1, hl.2.1, fun i v hi => ?_⟩ va_S.rf
  · rw [hL] at hv
    rcases List.mem_append.mp hv with hv | hv
    · exact hcl v (ent_mem as v hv)
    · have := List.eq_of_mem_replicate hv
      cases this
  · rw [hL] at hi
    by_cases hlt : i < (ent as).length
    · rw [List.getElem?_append_left hlt] at hi
      have := ent_args ρ as 0 i v hi
      rw [Nat.zero_add] at this
      exact hl.2.2 _ this
    · rw [List.getElem?_append_right (by omega)] at hi
      have := List.eq_of_mem_replicate (List.mem_of_getElem? hi)
      cases this
section Catches
variable {w : MC} {k : WC} {d mc ms : Nat} {y : MD} {n1 n2 pc : Nat} {L : List (Option AV)} {st : List AV} {h : AH} {PX : Prop}
theorem call_finX {p : Program} {l : Launch} {e : Env} {R : Room} {s : State} {m : MethodId} {args : Array Value} {below : List Frame} {meth : Method} {c : Code} {Q : State → Prop} {G : GG} {B : Nat} {ρ0 : Nm → Nat} {h0 : AH} {ρ : Nm → Nat} {H : Heap} {locs : List Loc} {ls : Array Slot} {mc' ms' : Nat} {Post : Option AV → AH → Prop} {av : Array Value} {st0 : List Value}
    (hA : Ag h0 ρ0 h ρ) (hs : ∀ v ∈ st, Cl h v) (hL : ∀ v, some v ∈ L → Cl h v) (hl : LV ρ ls L) (hS : va_S (fun q => B ≤ q) s.heap H locs)
    (hr : vx_Run p l e R s m args below meth c H locs n1 n2 mc' ms' (F0 m pc ls st0) (st.map (val ρ)) (QcOf G B ρ h Post av) (XCo G B ρ h PX) (fun q => B ≤ q))
    (kx : ∀ (ce : Cell) (q : Addr) (ρ' : Nm → Nat) (H1 : Heap) (locs1 : List Loc), PX → Ag h ρ h ρ' → Rep G B ρ' h H1 → va_S (fun q => B ≤ q) s.heap H1 locs1 → H1[q]? = some ce → ce.vm = .none → s.vm.findClass nseN = some ce.cls → vx_W p l e R s m args below meth c H1 locs1 (n1 + mc') (n2 + ms') Q (F0 m pc ls (st.map (val ρ))) q)
    (kk : ∀ (r : Option AV) (h' : AH), Post r h' → J (p, l, e, R, s, m, args, below, meth, c, Q, G, B, ρ0, h0) (n1 + mc') (n2 + ms') (pc + 3) L (r.toList ++ st) h') :
    W p l e R s m args below meth c H locs n1 n2 Q (F0 m pc ls st0) := by
  intro T hT X
  rcases hr T hT X with ⟨v, st₀, t, T', Lc, g0, X', hLc, e1, e2, ⟨⟨ρ', r, h', hAg, hv, hp, hcl, hR'⟩, hz, hkeep⟩, hgo⟩ | ⟨q, st₀, t, T', Lc, E, ce, g0, X', hLc, e1, e2, ⟨rfl, hpx, ⟨ρ', hAg, hR'⟩, hz, hkeep⟩, hce, hcv, hcl, hgo⟩
  · cases hv
    rw [g0] at hz hkeep
    have hcs : ∀ v ∈ r.toList ++ st, Cl h' v := fun v hv => by
      rcases List.mem_append.mp hv with q | q
      · exact hcl v (Option.mem_toList.mp q)
      · exact (Cl.ag hAg (hs v q)).1
    have K := kk r h' hp ρ' T'.heap (locs ++ Lc) ls (by rw [e1]; exact hR') (hA.tr hAg) hcs (fun v hv => (Cl.ag hAg (hL v hv)).1) ⟨hl.1, hl.2.1, fun i v hi => by rw [(Cl.ag hAg (hL v (List.mem_of_getElem? hi))).2]; exact hl.2.2 i v hi⟩
      ⟨Nat.le_trans hS.1 (by rw [e1]; exact hz), fun q g1 g2 => by rw [e1, hkeep q (Nat.lt_of_lt_of_le g1 hS.1) g2]; exact hS.2.1 q g1 g2, fun q hq => by
        rcases List.mem_append.mp hq with q1 | q1
        · exact hS.2.2 q q1
        · exact hLc q q1⟩
    have em : (r.toList ++ st).map (val ρ') = (r.map (val ρ')).toList ++ st.map (val ρ) := by
      rw [List.map_append, ag_map hAg hs]
      cases r <;> rfl
    rw [em] at K
    obtain ⟨t2, a1, b1⟩ := K T' rfl X'
    exact ⟨t2, hgo t2 a1, b1⟩
  · rw [g0] at hz hkeep
    obtain ⟨t2, a1, b1⟩ := kx ce q ρ' T'.heap (locs ++ Lc) hpx hAg (by rw [e1]; exact hR') ⟨Nat.le_trans hS.1 (by rw [e1]; exact hz), fun q g1 g2 => by rw [e1, hkeep q (Nat.lt_of_lt_of_le g1 hS.1) g2]; exact hS.2.1 q g1 g2, fun q hq => by
        rcases List.mem_append.mp hq with q1 | q1
        · exact hS.2.2 q q1
        · exact hLc q q1⟩ (by rw [e1]; exact hce) hcv hcl T' rfl X'
    exact ⟨t2, hgo.trans a1, b1⟩
theorem j_callX {idx : Nat} {n9 : Nm} {ci : Nat} {fs : List AV} {d' n mc' ms' ep hp i : Nat} {as : List AV} {y' : MD} {st0 : List AV} {Post : Option AV → AH → Prop} (hc : Cx w k d mc ms y) (hz : Zc w [(0, ep, hp, 13)]) (hd : decode y.2.1 pc = .ok (.invokevirtual idx, 3)) (hs0 : SV y.1.cls idx ci n y') (hh : h n9 = some (oO ci fs)) (he : EvX k d' y' h (vR n9 :: as) mc' ms' Post PX) (hst : st0 = as.reverse ++ vR n9 :: st) (hd' : d' + 1 ≤ d) (h1 : n1 + mc' ≤ mc) (h2 : n2 + ms' ≤ ms) (hLl : L.length = y.2.2.1) (hn : as.length = n) (hw : (st.map vcat).sum ≤ 8)
    (hcl : Cond.classLink y.1.cls 13 nseN ∈ tb) (hcov : covers ⟨0, ep, hp, 13⟩ pc = true) (hda : decode y.2.1 hp = .ok (.astore i, 2)) (hi : i < L.length) (kx : PX → J w (n1 + mc') (n2 + ms') (hp + 2) (List.replicate L.length none) [] h)
    (kk : ∀ (r : Option AV) (h' : AH), Post r h' → J w (n1 + mc') (n2 + ms') (pc + 3) L (r.toList ++ st) h') : J w n1 n2 pc L st0 h := by
  obtain ⟨p, l, e, R, s, m, args, below, meth, c, Q, G, B, ρ0, h0⟩ := w
  obtain ⟨hx, hb, hml, hown, hts, hK, hlk, hBs, hnm, hfr, hlo, hce, hsl, rfl, hret⟩ := hc
  obtain ⟨hzx, htab⟩ := hz
  intro ρ H locs ls hR hA hs hL hl hS
  subst hst
  subst hn
  obtain ⟨⟨r, hr, hsel⟩, hlink, hinst, hok⟩ := hs0
  obtain ⟨⟨r', hr', hlen, cell, q1, q2, q3, q4⟩, -, -⟩ := hR.1 n9 _ hh
  cases hr.symm.trans hr'
  have hcas : ∀ v ∈ vR n9 :: as, Cl h v := fun v hv => hs v (by
    rcases List.mem_cons.mp hv with rfl | hv
    · exact List.mem_append_right _ List.mem_cons_self
    · exact List.mem_append_left _ (List.mem_reverse.mpr hv))
  have hs' : ∀ v ∈ st, Cl h v := fun v hv => hs v (List.mem_append_right _ (List.mem_cons_of_mem _ hv))
  have hcat : ((st.map (val ρ)).map fun v => v.category).sum ≤ 8 := by
    rw [List.map_map]
    have e9 : ((fun v : Value => v.category) ∘ val ρ) = vcat := funext fun v => val_cat ρ v
    rw [e9]; exact hw
  refine call_finX hA hs' hL hl hS (vx_runV (C := r.1) (As := as.map (val ρ)) (b := ρ n9) ⟨hx, hb, hml, hown, hts⟩ (he ρ) ⟨callB_of as.length hts (tb_code hok.2.2.1) rfl rfl rfl (hts _ hok.2.2.2) (hts _ hlink) hok.1 ⟨by show d' + 1 ≤ R.frames; omega, by show 8 + (y'.2.2.1 + 11) + 100 * d' ≤ R.locals; have := hok.2.1; omega⟩, hts _ hinst, hts _ hsel⟩ ⟨PcX.blind, ⟨cell, q1, by rw [q3]; rfl, by rw [q2]; exact (hK.1.1 ci _ hr).2.1⟩, fun U hU hW => ⟨⟨by simp [val], hcas, by rw [hU]; exact hR, hK.warm hW, by rw [hU]; exact Nat.le_trans hBs hS.1⟩, hzx.go hS hU hW⟩⟩ rfl (by simp) (by show ls.size = y.2.2.1; rw [hl.1]; exact hLl) (by show ((as.reverse ++ vR n9 :: st).map (val ρ)) = (as.map (val ρ)).reverse ++ .ref (ρ n9) :: st.map (val ρ); simp [val]) (by show 2 * 0 + _ ≤ 8; rw [Nat.mul_zero, Nat.zero_add]; exact hcat) hd ⟨Nat.le_trans h1 hce, Nat.le_trans h2 hsl⟩) ?_ kk
  intro ce q ρ' H1 locs1 hpx hAg hR' hS' hcell hcv hcle
  refine vx_catch (own := y.1.cls) (name := nseN) (E := nseN) (ce := ce) hown [] ⟨0, ep, hp, 13⟩ [] (by rw [htab]; rfl) (fun z hz => nomatch hz) hcov (by show 13 ≠ 0; decide) (hts _ hcl) (va_Nw.use rfl hzx.2.2.2.1) hcell hcv hcle ?_
  exact lv_astore hx hb hda hl.has hi rfl (fun ls' hl' => kx hpx ρ' H1 locs1 ls' hR' (hA.tr hAg) (fun v hv => nomatch hv) (fun v hv => absurd (List.eq_of_mem_replicate hv) (fun z => nomatch z)) ⟨by rw [List.length_replicate]; exact hl'.1, hl'.2.1, fun i v hi => by
    have h9 := List.mem_of_getElem? hi
    exact absurd (List.eq_of_mem_replicate h9) (fun z => nomatch z)⟩ hS')
end Catches
def nrI (v : Int) : Int := (Int32.ofInt v).toInt
theorem nrI_in (v : Int) : inI (nrI v) := by
  have h1 := Int32.le_toInt (Int32.ofInt v)
  have h2 := Int32.toInt_lt (Int32.ofInt v)
  unfold nrI
  exact ⟨by omega, by omega⟩
theorem nrI_v (ρ : Nm → Nat) (v : Int) : val ρ (vI (nrI v)) = val ρ (vI v) := by
  show Value.int (Int32.ofInt (Int32.ofInt v).toInt) = Value.int (Int32.ofInt v)
  rw [Int32.ofInt_toInt]
theorem j_norm {w : MC} {n1 n2 pc : Nat} {L : List (Option AV)} {st : List AV} {h : AH} {v : Int} (kk : J w n1 n2 pc L (vI (nrI v) :: st) h) : J w n1 n2 pc L (vI v :: st) h := by
  obtain ⟨p, l, e, R, s, m, args, below, meth, c, Q, G, B, ρ0, h0⟩ := w
  intro ρ H locs ls hR hA hs hL hl hS
  have K := kk ρ H locs ls hR hA (List.forall_mem_cons.mpr ⟨trivial, fun v hv => hs v (List.mem_cons_of_mem _ hv)⟩) hL hl hS
  rw [List.map_cons, nrI_v] at K
  exact K
theorem lnk_L13 : Cond.classLink RL 13 nseN ∈ tb := (tb_in 1138 (by decide +kernel) rfl)
theorem dL_harvest_0 : decode cL_harvest 0 = .ok (.aload 5, 2) := by decide +kernel
theorem dL_harvest_2 : decode cL_harvest 2 = .ok (.iconst 0, 1) := by decide +kernel
theorem dL_harvest_3 : decode cL_harvest 3 = .ok (.aload_n 0, 1) := by decide +kernel
theorem dL_harvest_4 : decode cL_harvest 4 = .ok (.iload_n 1, 1) := by decide +kernel
theorem dL_harvest_5 : decode cL_harvest 5 = .ok (.iload_n 2, 1) := by decide +kernel
theorem dL_harvest_6 : decode cL_harvest 6 = .ok (.iload_n 3, 1) := by decide +kernel
theorem dL_harvest_7 : decode cL_harvest 7 = .ok (.iload 4, 2) := by decide +kernel
theorem dL_harvest_9 : decode cL_harvest 9 = .ok (.invokevirtual 7, 3) := by decide +kernel
theorem dL_harvest_12 : decode cL_harvest 12 = .ok (.i2l, 1) := by decide +kernel
theorem dL_harvest_13 : decode cL_harvest 13 = .ok (.lastore, 1) := by decide +kernel
theorem dL_harvest_14 : decode cL_harvest 14 = .ok (.goto 7, 3) := by decide +kernel
theorem dL_harvest_17 : decode cL_harvest 17 = .ok (.astore 6, 2) := by decide +kernel
theorem dL_harvest_19 : decode cL_harvest 19 = .ok (.iconst 1, 1) := by decide +kernel
theorem dL_harvest_20 : decode cL_harvest 20 = .ok (.ireturn, 1) := by decide +kernel
theorem dL_harvest_21 : decode cL_harvest 21 = .ok (.iconst 0, 1) := by decide +kernel
theorem dL_harvest_22 : decode cL_harvest 22 = .ok (.ireturn, 1) := by decide +kernel
theorem dL_worth_0 : decode cL_worth 0 = .ok (.aload 7, 2) := by decide +kernel
theorem dL_worth_2 : decode cL_worth 2 = .ok (.iconst 0, 1) := by decide +kernel
theorem dL_worth_3 : decode cL_worth 3 = .ok (.aload_n 0, 1) := by decide +kernel
theorem dL_worth_4 : decode cL_worth 4 = .ok (.iload_n 1, 1) := by decide +kernel
theorem dL_worth_5 : decode cL_worth 5 = .ok (.iload_n 2, 1) := by decide +kernel
theorem dL_worth_6 : decode cL_worth 6 = .ok (.iload_n 3, 1) := by decide +kernel
theorem dL_worth_7 : decode cL_worth 7 = .ok (.iload 4, 2) := by decide +kernel
theorem dL_worth_9 : decode cL_worth 9 = .ok (.iload 5, 2) := by decide +kernel
theorem dL_worth_11 : decode cL_worth 11 = .ok (.iload 6, 2) := by decide +kernel
theorem dL_worth_13 : decode cL_worth 13 = .ok (.invokevirtual 15, 3) := by decide +kernel
theorem dL_worth_16 : decode cL_worth 16 = .ok (.i2l, 1) := by decide +kernel
theorem dL_worth_17 : decode cL_worth 17 = .ok (.lastore, 1) := by decide +kernel
theorem dL_worth_18 : decode cL_worth 18 = .ok (.goto 7, 3) := by decide +kernel
theorem dL_worth_21 : decode cL_worth 21 = .ok (.astore 8, 2) := by decide +kernel
theorem dL_worth_23 : decode cL_worth 23 = .ok (.iconst 1, 1) := by decide +kernel
theorem dL_worth_24 : decode cL_worth 24 = .ok (.ireturn, 1) := by decide +kernel
theorem dL_worth_25 : decode cL_worth 25 = .ok (.iconst 0, 1) := by decide +kernel
theorem dL_worth_26 : decode cL_worth 26 = .ok (.ireturn, 1) := by decide +kernel
theorem dL_ran_0 : decode cL_ran 0 = .ok (.aload 4, 2) := by decide +kernel
theorem dL_ran_2 : decode cL_ran 2 = .ok (.iconst 0, 1) := by decide +kernel
theorem dL_ran_3 : decode cL_ran 3 = .ok (.aload_n 0, 1) := by decide +kernel
theorem dL_ran_4 : decode cL_ran 4 = .ok (.iload_n 1, 1) := by decide +kernel
theorem dL_ran_5 : decode cL_ran 5 = .ok (.iload_n 2, 1) := by decide +kernel
theorem dL_ran_6 : decode cL_ran 6 = .ok (.iload_n 3, 1) := by decide +kernel
theorem dL_ran_7 : decode cL_ran 7 = .ok (.invokevirtual 19, 3) := by decide +kernel
theorem dL_ran_10 : decode cL_ran 10 = .ok (.i2l, 1) := by decide +kernel
theorem dL_ran_11 : decode cL_ran 11 = .ok (.lastore, 1) := by decide +kernel
theorem dL_ran_12 : decode cL_ran 12 = .ok (.goto 7, 3) := by decide +kernel
theorem dL_ran_15 : decode cL_ran 15 = .ok (.astore 5, 2) := by decide +kernel
theorem dL_ran_17 : decode cL_ran 17 = .ok (.iconst 1, 1) := by decide +kernel
theorem dL_ran_18 : decode cL_ran 18 = .ok (.ireturn, 1) := by decide +kernel
theorem dL_ran_19 : decode cL_ran 19 = .ok (.iconst 0, 1) := by decide +kernel
theorem dL_ran_20 : decode cL_ran 20 = .ok (.ireturn, 1) := by decide +kernel
abbrev isBL : Nm → Prop := fun z => z.1 < 70 ∨ z = (99, 0)
abbrev mdL_harvest : MD := (yL_harvest, cL_harvest, 7, some .int)
set_option maxRecDepth 100000 in
set_option maxHeartbeats 4000000 in
theorem ev_L_harvest {k : WC} {d : Nat} {h : AH} {S : BaS} {f : Int → Int} {l q i wh : Int} (hd : 16 ≤ d) (hntr : k.1.stackTraces = false) (hB : BarnAt h S) (hO : h (99, 0) = some (oL 1 f)) (hil : inI l) (hiq : inI q) (hii : inI i) (hiw : inI wh) : EvW k d mdL_harvest [(0, 14, 17, 13)] h [vR (0, 0), vI l, vI q, vI i, vI wh, vR (99, 0)] 1 6 (pe fun v h' => v = vI (tHarv S l q i wh) ∧ (∃ g, h' (99, 0) = some (oL 1 g) ∧ (tHarv S l q i wh = 0 → g 0 = nrI (aHarv S l q i wh))) ∧ BarnAt h' S ∧ Fr isBL h h') := by
  have zb0 := hB.1.1.1
  refine EvW.mk (by decide +kernel) [_, _, _, _, _, _, _] rfl (Nat.le_of_ble_eq_true rfl) (fun w hc he hz => ?_)
  refine j_aload hc dL_harvest_0 rfl ?_
  refine j_iconst hc dL_harvest_2 ?_
  refine j_aload_n hc dL_harvest_3 rfl ?_
  refine j_iload_n hc dL_harvest_4 rfl ?_
  refine j_iload_n hc dL_harvest_5 rfl ?_
  refine j_iload_n hc dL_harvest_6 rfl ?_
  refine j_iload hc dL_harvest_7 rfl ?_
  refine j_callX (d' := d - 1) hc hz dL_harvest_9 vL_7 zb0 (ev_X10_harvest_x (by omega) hntr hB hil hiq hii hiw) rfl (by omega) (by omega) (by omega) rfl rfl (Nat.le_of_ble_eq_true rfl) lnk_L13 rfl dL_harvest_17 (Nat.le_of_ble_eq_true rfl) (fun zpx => ?_) (retE fun zv zq zp => ?_)
  · refine j_iconst hc dL_harvest_19 ?_
    exact j_iret hc he dL_harvest_20 rfl (by omega) (by omega) ⟨_, rfl, by unfold tHarv; rw [if_neg zpx], ⟨_, hO, fun z => absurd z (by unfold tHarv; rw [if_neg zpx]; decide)⟩, hB, Fr.rf _ _⟩
  · obtain ⟨zv1, zv2, zB2, zF2⟩ := zp
    subst zv1
    have zO2 := (zF2 (99, 0) (by show ¬ (99 < 70); decide)).trans hO
    refine j_norm ?_
    refine j_i2l hc dL_harvest_12 (nrI_in _) ?_
    refine j_last hc dL_harvest_13 zO2 (by omega) (by omega) ?_
    generalize ezh1 : up _ _ _ = zh1
    refine j_goto (tgt := 21) hc dL_harvest_14 (by decide) ?_
    refine j_iconst hc dL_harvest_21 ?_
    exact j_iret hc he dL_harvest_22 rfl (by omega) (by omega) ⟨_, rfl, by unfold tHarv; rw [if_pos zv2], ⟨_, (congrFun ezh1 _).symm.trans (up_same _ _ _), fun _ => fu_same _ _ _⟩, zB2.fr (fun z hz => by rw [← ezh1]; exact up_ne (fun y => by rw [y] at hz; exact absurd hz (by decide))), by rw [← ezh1]; exact Fr.push (zF2.mono fun z zz => Or.inl zz) (Or.inr rfl)⟩
abbrev mdL_worth : MD := (yL_worth, cL_worth, 9, some .int)
set_option maxRecDepth 100000 in
set_option maxHeartbeats 4000000 in
theorem ev_L_worth {k : WC} {d : Nat} {h : AH} {S : BaS} {f : Int → Int} {r a t n p my : Int} (hd : 16 ≤ d) (hntr : k.1.stackTraces = false) (hB : BarnAt h S) (hO : h (99, 0) = some (oL 1 f)) (hir : inI r) (hia : inI a) (hit : inI t) (hin : inI n) (hip : inI p) (him : inI my) : EvW k d mdL_worth [(0, 18, 21, 13)] h [vR (0, 0), vI r, vI a, vI t, vI n, vI p, vI my, vR (99, 0)] 1 6 (pe fun v h' => v = vI (tWorth S r) ∧ (∃ g, h' (99, 0) = some (oL 1 g) ∧ (tWorth S r = 0 → g 0 = nrI (aWorth S r a t n p my))) ∧ BarnAt h' S ∧ Fr isBL h h') := by
  have zb0 := hB.1.1.1
  refine EvW.mk (by decide +kernel) [_, _, _, _, _, _, _, _, _] rfl (Nat.le_of_ble_eq_true rfl) (fun w hc he hz => ?_)
  refine j_aload hc dL_worth_0 rfl ?_
  refine j_iconst hc dL_worth_2 ?_
  refine j_aload_n hc dL_worth_3 rfl ?_
  refine j_iload_n hc dL_worth_4 rfl ?_
  refine j_iload_n hc dL_worth_5 rfl ?_
  refine j_iload_n hc dL_worth_6 rfl ?_
  refine j_iload hc dL_worth_7 rfl ?_
  refine j_iload hc dL_worth_9 rfl ?_
  refine j_iload hc dL_worth_11 rfl ?_
  refine j_callX (d' := d - 1) hc hz dL_worth_13 vL_15 zb0 (ev_X10_worth_x (by omega) hntr hB hir hia hit hin hip him) rfl (by omega) (by omega) (by omega) rfl rfl (Nat.le_of_ble_eq_true rfl) lnk_L13 rfl dL_worth_21 (Nat.le_of_ble_eq_true rfl) (fun zpx => ?_) (retE fun zv zq zp => ?_)
  · refine j_iconst hc dL_worth_23 ?_
    exact j_iret hc he dL_worth_24 rfl (by omega) (by omega) ⟨_, rfl, by unfold tWorth; rw [if_neg zpx], ⟨_, hO, fun z => absurd z (by unfold tWorth; rw [if_neg zpx]; decide)⟩, hB, Fr.rf _ _⟩
  · obtain ⟨zv1, zv2, zB2, zF2⟩ := zp
    subst zv1
    have zO2 := (zF2 (99, 0) (by show ¬ (99 < 70); decide)).trans hO
    refine j_norm ?_
    refine j_i2l hc dL_worth_16 (nrI_in _) ?_
    refine j_last hc dL_worth_17 zO2 (by omega) (by omega) ?_
    generalize ezh1 : up _ _ _ = zh1
    refine j_goto (tgt := 25) hc dL_worth_18 (by decide) ?_
    refine j_iconst hc dL_worth_25 ?_
    exact j_iret hc he dL_worth_26 rfl (by omega) (by omega) ⟨_, rfl, by unfold tWorth; rw [if_pos zv2], ⟨_, (congrFun ezh1 _).symm.trans (up_same _ _ _), fun _ => fu_same _ _ _⟩, zB2.fr (fun z hz => by rw [← ezh1]; exact up_ne (fun y => by rw [y] at hz; exact absurd hz (by decide))), by rw [← ezh1]; exact Fr.push (zF2.mono fun z zz => Or.inl zz) (Or.inr rfl)⟩
abbrev mdL_ran : MD := (yL_ran, cL_ran, 6, some .int)
set_option maxRecDepth 100000 in
set_option maxHeartbeats 4000000 in
theorem ev_L_ran {k : WC} {d : Nat} {h : AH} {S : BaS} {f : Int → Int} {t i x : Int} (hd : 16 ≤ d) (hntr : k.1.stackTraces = false) (hB : BarnAt h S) (hO : h (99, 0) = some (oL 1 f)) (hit : inI t) (hii : inI i) (hix : inI x) : EvW k d mdL_ran [(0, 12, 15, 13)] h [vR (0, 0), vI t, vI i, vI x, vR (99, 0)] 1 6 (pe fun v h' => v = vI (tRan S t i x) ∧ (∃ g, h' (99, 0) = some (oL 1 g) ∧ (tRan S t i x = 0 → g 0 = nrI (aRan S t i x))) ∧ BarnAt h' S ∧ Fr isBL h h') := by
  have zb0 := hB.1.1.1
  refine EvW.mk (by decide +kernel) [_, _, _, _, _, _] rfl (Nat.le_of_ble_eq_true rfl) (fun w hc he hz => ?_)
  refine j_aload hc dL_ran_0 rfl ?_
  refine j_iconst hc dL_ran_2 ?_
  refine j_aload_n hc dL_ran_3 rfl ?_
  refine j_iload_n hc dL_ran_4 rfl ?_
  refine j_iload_n hc dL_ran_5 rfl ?_
  refine j_iload_n hc dL_ran_6 rfl ?_
  refine j_callX (d' := d - 1) hc hz dL_ran_7 vL_19 zb0 (ev_X10_ran_x (by omega) hntr hB hit hii hix) rfl (by omega) (by omega) (by omega) rfl rfl (Nat.le_of_ble_eq_true rfl) lnk_L13 rfl dL_ran_15 (Nat.le_of_ble_eq_true rfl) (fun zpx => ?_) (retE fun zv zq zp => ?_)
  · refine j_iconst hc dL_ran_17 ?_
    exact j_iret hc he dL_ran_18 rfl (by omega) (by omega) ⟨_, rfl, by unfold tRan; rw [if_neg zpx], ⟨_, hO, fun z => absurd z (by unfold tRan; rw [if_neg zpx]; decide)⟩, hB, Fr.rf _ _⟩
  · obtain ⟨zv1, zv2, zB2, zF2⟩ := zp
    subst zv1
    have zO2 := (zF2 (99, 0) (by show ¬ (99 < 70); decide)).trans hO
    refine j_norm ?_
    refine j_i2l hc dL_ran_10 (nrI_in _) ?_
    refine j_last hc dL_ran_11 zO2 (by omega) (by omega) ?_
    generalize ezh1 : up _ _ _ = zh1
    refine j_goto (tgt := 19) hc dL_ran_12 (by decide) ?_
    refine j_iconst hc dL_ran_19 ?_
    exact j_iret hc he dL_ran_20 rfl (by omega) (by omega) ⟨_, rfl, by unfold tRan; rw [if_pos zv2], ⟨_, (congrFun ezh1 _).symm.trans (up_same _ _ _), fun _ => fu_same _ _ _⟩, zB2.fr (fun z hz => by rw [← ezh1]; exact up_ne (fun y => by rw [y] at hz; exact absurd hz (by decide))), by rw [← ezh1]; exact Fr.push (zF2.mono fun z zz => Or.inl zz) (Or.inr rfl)⟩
