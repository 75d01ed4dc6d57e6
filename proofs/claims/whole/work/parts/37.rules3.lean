/-! ===== arrays of references, clone, checkcast, arraycopy, rows ===== -/
section Rules3
variable {w : MC} {k : WC} {d mc ms : Nat} {y : MD} {n1 n2 pc : Nat} {L : List (Option AV)} {st : List AV} {h : AH}
/-- a new cell: from the real heap to the named one -/
theorem born {p : Program} {l : Launch} {e : Env} {R : Room} {s : State} {m : MethodId} {args : Array Value} {below : List Frame} {meth : Method} {c : Code} {Q : State → Prop} {G : GG} {B : Nat} {ρ0 : Nm → Nat} {h0 : AH} {ρ : Nm → Nat} {H H1 : Heap} {locs : List Loc} {ls : Array Slot} {nm : Nm} {o : AO} {pc' : Nat}
    (kk : J (p, l, e, R, s, m, args, below, meth, c, Q, G, B, ρ0, h0) n1 n2 pc' L (vR nm :: st) (up h nm o)) (hR : Rep G B ρ h H) (hA : Ag h0 ρ0 h ρ) (hs : ∀ v ∈ st, Cl h v) (hL : ∀ v, some v ∈ L → Cl h v) (hl : LV ρ ls L) (hS : va_S (fun q => B ≤ q) s.heap H locs) (hBs : B ≤ s.heap.size) (hf : h nm = none)
    (e1 : CellAt G (rnew ρ nm H.size) H1 H.size o) (o1 : ∀ q : Nat, q < H.size → H1[q]? = H[q]?) (z1 : H1.size = H.size + 1) (hcl : ClO (up h nm o) o) : W p l e R s m args below meth c H1 locs n1 n2 Q (F0 m pc' ls (.ref H.size :: st.map (val ρ))) := by
  have ag := up_ag_new (o := o) hf ρ H.size
  have hB : B ≤ H.size := Nat.le_trans hBs hS.1
  have hR' : Rep G B (rnew ρ nm H.size) (up h nm o) H1 := hR.new hf o1 hB e1 hcl
  have hmap : st.map (val (rnew ρ nm H.size)) = st.map (val ρ) := ag_map ag hs
  have K := kk (rnew ρ nm H.size) H1 locs ls hR' (hA.tr ag) (List.forall_mem_cons.mpr ⟨by show up h nm _ nm ≠ none; rw [up_same]; simp, fun v hv => (hs v hv).w⟩) (fun v hv => (hL v hv).w) ⟨hl.1, hl.2.1, fun i v hi => by rw [(Cl.ag ag (hL v (List.mem_of_getElem? hi))).2]; exact hl.2.2 i v hi⟩ ⟨Nat.le_trans hS.1 (by omega), fun x g1 g2 => (o1 x (Nat.lt_of_lt_of_le g1 hS.1)).trans (hS.2.1 x g1 g2), hS.2.2⟩
  rw [List.map_cons, hmap] at K
  simp only [val, rnew_same] at K
  exact K
theorem j_anew {nm : Nm} {n : Int} {kd idx : Nat} {C : String} (hc : Cx w k d mc ms y) (hd : decode y.2.1 pc = .ok (.anewarray idx, 3)) (hw : Cond.classLink y.1.cls idx C ∈ tb) (hk1 : 3 ≤ kd) (hk2 : kd ≤ 7) (hC : aty kd = .object C) (hCm : C ∈ [RX0, RX4, RX9, RX2]) (hf : h nm = none) (hn0 : 0 ≤ n) (hn1 : n < 60000000) (h1 : n1 + 1 ≤ mc) (h2 : n2 + n.toNat ≤ ms) (kk : J w (n1 + 1) (n2 + n.toNat) (pc + 3) L (vR nm :: st) (up h nm (oA kd n.toNat (fun _ => none)))) : J w n1 n2 pc L (vI n :: st) h := by
  obtain ⟨p, l, e, R, s, m, args, below, meth, c, Q, G, B, ρ0, h0⟩ := w
  obtain ⟨hx, hb, hml, hown, hts, hK, hlk, hBs, hnm, hfr, hlo, hce, hsl, hk, hret⟩ := hc
  intro ρ H locs ls hR hA hs hL hl hS
  have hN : (Int32.ofInt n).toNatClampNeg = n.toNat := i32_nat hn0 (by omega)
  refine W.anew hx hb hown (hts _ hw) (va_AO.use (hK.2.1 C hCm)) rfl hd rfl (fun q => by rw [i32_zero, i32_lt ⟨by omega, by omega⟩ ⟨by omega, by omega⟩] at q; omega) (by rw [hN]; omega) (Nat.le_trans h1 hce) (by rw [hN]; exact Nat.le_trans h2 hsl) fun cA kA comp f1 f2 f3 f4 => ?_
  have hra := (hK.1.2 kd _ (aty_at hk1 hk2)).2
  rw [hC] at hra
  obtain ⟨kA', comp', -, -, -, g4⟩ := hra
  have hcA : cA = G.2.2 kd := Option.some.inj (f1.symm.trans g4)
  subst hcA
  rw [hN]
  refine born kk hR hA (fun v hv => hs v (List.mem_cons_of_mem _ hv)) hL hl hS hBs hf ⟨by show n.toNat < _; omega, ?_⟩ (fun q hq => by rw [Array.getElem?_push, if_neg (Nat.ne_of_lt hq)]) (Array.size_push _) (fun j _ => trivial)
  show _ = some (arrV _ n.toNat (fun _ => Value.null))
  rw [Array.getElem?_push_size, ← arrV_new]
theorem j_castI {n9 : Nm} {idx len : Nat} {f : Int → Int} (hc : Cx w k d mc ms y) (hd : decode y.2.1 pc = .ok (.checkcast idx, 3)) (hw : Cond.classLink y.1.cls idx "[I" ∈ tb) (hh : h n9 = some (oI len f)) (kk : J w n1 n2 (pc + 3) L (vR n9 :: st) h) : J w n1 n2 pc L (vR n9 :: st) h := by
  obtain ⟨p, l, e, R, s, m, args, below, meth, c, Q, G, B, ρ0, h0⟩ := w
  obtain ⟨hx, hb, hml, hown, hts, hK, hlk, hBs, hnm, hfr, hlo, hce, hsl, hk, hret⟩ := hc
  intro ρ H locs ls hR hA hs hL hl hS
  obtain ⟨⟨hlen, hcell⟩, -, -⟩ := hR.1 n9 _ hh
  have hnmI : s.vm.findClass "[I" = some (G.2.2 0) := (hK.1.2 0 (G.2.2 0, .int) rfl).2
  have K := kk ρ H locs ls hR hA hs hL hl hS
  intro T hT X
  obtain ⟨vm', X', stp⟩ := X.checkcastYes hx hown (hts _ hw) (a := ρ n9) (by rw [hT]; exact hcell) rfl hnmI (va_asg _ _) (g := F0 m pc ls ((vR n9 :: st).map (val ρ))) rfl rfl (by rw [hb]; exact hd)
  obtain ⟨t, a1, b1⟩ := K (T.setVm vm') hT X'
  exact ⟨t, stp t a1, b1⟩
theorem j_clone {n9 nm : Nm} {idx len : Nat} {f : Int → Int} (hc : Cx w k d mc ms y) (hd : decode y.2.1 pc = .ok (.invokevirtual idx, 3)) (hw : Cond.methodLink y.1.cls idx ⟨"[I", "clone", "()Ljava/lang/Object;"⟩ ∈ tb) (hh : h n9 = some (oI len f)) (hf : h nm = none) (hd1 : 1 ≤ d) (hLl : L.length = y.2.2.1) (hwd : (st.map vcat).sum ≤ 8) (h1 : n1 + 1 ≤ mc) (h2 : n2 + len ≤ ms) (kk : J w (n1 + 1) (n2 + len) (pc + 3) L (vR nm :: st) (up h nm (oI len f))) : J w n1 n2 pc L (vR n9 :: st) h := by
  obtain ⟨p, l, e, R, s, m, args, below, meth, c, Q, G, B, ρ0, h0⟩ := w
  obtain ⟨hx, hb, hml, hown, hts, hK, hlk, hBs, hnm, hfr, hlo, hce, hsl, hk, hret⟩ := hc
  intro ρ H locs ls hR hA hs hL hl hS
  have hs' : ∀ v ∈ st, Cl h v := fun v hv => hs v (List.mem_cons_of_mem _ hv)
  have hcat : ((st.map (val ρ)).map fun v => v.category).sum ≤ 8 := by
    rw [List.map_map]
    have e9 : ((fun v : Value => v.category) ∘ val ρ) = vcat := funext fun v => val_cat ρ v
    rw [e9]; exact hwd
  obtain ⟨⟨hlen, hcell⟩, -, -⟩ := hR.1 n9 _ hh
  dsimp only at hlen hcell
  have hnmI : s.vm.findClass "[I" = some (G.2.2 0) := (hK.1.2 0 (G.2.2 0, .int) rfl).2
  obtain ⟨cC, t0, f1, f2, f3⟩ := Cond.castable_spec (va_Nw.use (A := args) rfl hK.2.2.2.1)
  cases hnmI.symm.trans f1
  have hR9 := hR
  intro T hT X
  have hcellT : T.heap[ρ n9]? = some (arrV (G.2.2 0) len (fun j => pv 0 (f j))) := by rw [hT]; exact hcell
  obtain ⟨-, kA, hkA, comp, hkind⟩ := State.isArrayOf_alike X.warmed.alike ((hK.1.2 0 (G.2.2 0, .int) rfl).1 0 (fun _ => .null))
  obtain ⟨-, kS, hkS, compS, hkindS⟩ := (hK.1.2 0 (G.2.2 0, .int) rfl).1 0 (fun _ => .null)
  obtain ⟨vm', X', stp⟩ := X.cloneArray hx hown (hts _ hw) (hts _ (tb_in 579 (by decide +kernel) rfl)) (hts _ (tb_in 580 (by decide +kernel) rfl)) (hts _ (tb_in 581 (by decide +kernel) rfl)) (hts _ (tb_in 582 (by decide +kernel) rfl)) (a := ρ n9) (cell := arrV (G.2.2 0) len (fun j => pv 0 (f j))) hcellT (fun k h => by cases h) (fun h => by cases h) hnmI f2 f3
    (fun i v hv => by
      have hi : i < len := by
        have := (Array.getElem?_eq_some_iff.mp hv).1
        rw [arrV_size] at this
        exact this
      rw [arrV_read _ _ hi] at hv
      cases hv
      have hk' : T.vm.classes[G.2.2 0]? = some kA := hkA
      show T.fitsSlot (G.2.2 0) .none i (pv 0 (f i)) = true
      simp [State.fitsSlot, State.slotType?, hk', hkind, pv, fits])
    (g := F0 m pc ls ((vR n9 :: st).map (val ρ))) rfl (by show ls.size = _; rw [hl.1, hLl, hml]) rfl (by rw [hb]; exact hd) (by omega) (by show 2 * 0 + _ + 14 ≤ _; omega) (Nat.le_trans h1 hce) (by rw [arrV_size]; exact Nat.le_trans h2 hsl) (hloader := Vm.clonesLoader_of_array hkS hkindS)
  rw [arrV_size] at X'
  have K := born kk hR hA hs' hL hl hS hBs hf (H1 := H.push (arrV (G.2.2 0) len (fun j => pv 0 (f j)))) ⟨hlen, by rw [Array.getElem?_push_size]⟩ (fun q hq => by rw [Array.getElem?_push, if_neg (Nat.ne_of_lt hq)]) (Array.size_push _) trivial
  obtain ⟨t, a1, b1⟩ := K ((T.setVm vm').pushCell (arrV (G.2.2 0) len (fun j => pv 0 (f j)))) (by rw [← hT]; rfl) X'
  refine ⟨t, stp t ?_, b1⟩
  rw [hT]
  exact a1
end Rules3
