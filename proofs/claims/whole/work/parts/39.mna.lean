/-! ===== two rows of ints at once ===== -/
section Rules5
variable {w : MC} {k : WC} {d mc ms : Nat} {y : MD} {n1 n2 pc : Nat} {L : List (Option AV)} {st : List AV} {h : AH}
theorem j_mna {idx : Nat} (hc : Cx w k d mc ms y) (hd : decode y.2.1 pc = .ok (.multianewarray idx 2, 4)) (hw : Cond.classLink y.1.cls idx "[[I" ∈ tb) (hwI : Cond.arrayClass .int ∈ tb) (hf0 : h (13, 0) = none) (hf1 : h (14, 0) = none) (hf2 : h (14, 1) = none) (h1 : n1 + 3 ≤ mc) (h2 : n2 + 82 ≤ ms) (kk : J w (n1 + 3) (n2 + 82) (pc + 4) L (vR (13, 0) :: st) (rwH h)) : J w n1 n2 pc L (vI 40 :: vI 2 :: st) h := by
  obtain ⟨p, l, e, R, s, m, args, below, meth, c, Q, G, B, ρ0, h0⟩ := w
  obtain ⟨hx, hb, hml, hown, hts, hK, hlk, hBs, hnm, hfr, hlo, hce, hsl, hk, hret⟩ := hc
  intro ρ H locs ls hR hA hs hL hl hS
  have hs' : ∀ v ∈ st, Cl h v := fun v hv => hs v (List.mem_cons_of_mem _ (List.mem_cons_of_mem _ hv))
  have hnmI : s.vm.findClass "[I" = some (G.2.2 0) := (hK.1.2 0 (G.2.2 0, .int) rfl).2
  have hnmA : s.vm.findClass "[[I" = some (G.2.2 5) := (hK.1.2 5 (G.2.2 5, .array .int) rfl).2
  have hover : (Cond.arrayOver (.array .int)).before args s = true := hK.2.2.1
  have q2 : (Int32.ofInt 2).toNatClampNeg = 2 := rfl
  have q40 : (Int32.ofInt 40).toNatClampNeg = 40 := rfl
  intro T hT X
  obtain ⟨vm₁, cA, comp, -, fA, fC, hO, -, X', stp⟩ := Stand.multianewarray2F X hx hown (hts _ hw) hover (hts _ hwI) (g := F0 m pc ls ((vI 40 :: vI 2 :: st).map (val ρ))) (n := Int32.ofInt 2) (k := Int32.ofInt 40) (rest := st.map (val ρ)) rfl (by rw [hb]; exact hd) rfl (by decide) (by decide) (by decide) (by decide) (by decide) (by decide) (by decide) (by rw [q2]; omega) (by rw [q2, q40]; omega)
  have ec : G.2.2 0 = comp := Option.some.inj (hnmI.symm.trans fC)
  subst ec
  have eA : G.2.2 5 = cA := Option.some.inj (hnmA.symm.trans fA)
  subst eA
  generalize hF : Jvm.Free.Multi.fill (T.setVm vm₁) (G.2.2 5) (G.2.2 0) (Int32.ofInt 2).toNatClampNeg (Int32.ofInt 40).toNatClampNeg (defaultValue .int) (Int32.ofInt 2).toNatClampNeg = F at X' stp
  have hTh : (T.setVm vm₁).heap = H := hT
  obtain ⟨f1, f2, -, -⟩ := Jvm.Free.Multi.fill_facts (T.setVm vm₁) (G.2.2 5) (G.2.2 0) (Int32.ofInt 2).toNatClampNeg (Int32.ofInt 40).toNatClampNeg (defaultValue .int) (Int32.ofInt 2).toNatClampNeg
  rw [hF, hTh] at f1 f2
  have hold : ∀ x : Nat, x < H.size → F.heap[x]? = H[x]? := fun x hx => by
    have := Jvm.Free.Multi.fill_old (T.setVm vm₁) (G.2.2 5) (G.2.2 0) (Int32.ofInt 2).toNatClampNeg (Int32.ofInt 40).toNatClampNeg (defaultValue .int) (a := x) (by rw [hTh]; exact hx) (Int32.ofInt 2).toNatClampNeg
    rw [hF, hTh] at this
    exact this
  have hrow : ∀ j : Nat, j < 2 → F.heap[H.size + 1 + j]? = some (arrV (G.2.2 0) 40 (fun _ => pv 0 0)) := fun j hj => by
    have := Jvm.Free.Multi.fill_inner (T.setVm vm₁) (G.2.2 5) (G.2.2 0) (Int32.ofInt 2).toNatClampNeg (Int32.ofInt 40).toNatClampNeg (defaultValue .int) (Int32.ofInt 2).toNatClampNeg j hj
    rw [hF, hTh] at this
    rw [this]
    refine congrArg some ?_
    exact (arrV_new _ _ _)
  have hout : F.heap[H.size]? = some (arrV (G.2.2 5) 2 (fun j => va_rf (if j < 2 then some (H.size + 1 + j) else none))) := by
    rw [f2]
    refine congrArg some ?_
    show ((({ cls := G.2.2 5, slots := Array.replicate 2 .null, vm := .none } : Cell).setSlot 0 (.ref (H.size + 1 + 0))).setSlot 1 (.ref (H.size + 1 + 1))) = _
    rw [arrV_new, arrV_store, arrV_store]
    refine arrV_congr fun j hj => ?_
    rcases (by omega : j = 0 ∨ j = 1) with rfl | rfl <;> simp [updV, va_rf]
  have hB : B ≤ H.size := Nat.le_trans hBs hS.1
  have lt0 : ∀ x, h x ≠ none → ρ x < H.size := fun x hx => hR.lt hx
  have R1 : Rep G B (rnew ρ (14, 0) (H.size + 1)) (up h (14, 0) (oI 40 (fun _ => 0))) F.heap := hR.newAt hf1 hold (fun x hx e => by have := lt0 x hx; omega) (by omega) ⟨by show (40 : Nat) < _; omega, hrow 0 (by omega)⟩ trivial
  have g2 : up h (14, 0) (oI 40 (fun _ => 0)) (14, 1) = none := by rw [up_ne (by simp)]; exact hf2
  have R2 : Rep G B (rnew (rnew ρ (14, 0) (H.size + 1)) (14, 1) (H.size + 2)) (up (up h (14, 0) (oI 40 (fun _ => 0))) (14, 1) (oI 40 (fun _ => 0))) F.heap := R1.newAt g2 (fun _ _ => rfl) (fun x hx e => by
    by_cases e0 : x = (14, 0)
    · subst e0; rw [rnew_same] at e; omega
    · rw [up_ne e0] at hx; rw [rnew_ne e0] at e; have := lt0 x hx; omega) (by omega) ⟨by show (40 : Nat) < _; omega, hrow 1 (by omega)⟩ trivial
  have g3 : up (up h (14, 0) (oI 40 (fun _ => 0))) (14, 1) (oI 40 (fun _ => 0)) (13, 0) = none := by rw [up_ne (by simp), up_ne (by simp)]; exact hf0
  have R3 : Rep G B (rnew (rnew (rnew ρ (14, 0) (H.size + 1)) (14, 1) (H.size + 2)) (13, 0) H.size) (rwH h) F.heap := R2.newAt g3 (fun _ _ => rfl) (fun x hx e => by
    by_cases e1 : x = (14, 1)
    · subst e1; rw [rnew_same] at e; omega
    · rw [up_ne e1] at hx; rw [rnew_ne e1] at e
      by_cases e0 : x = (14, 0)
      · subst e0; rw [rnew_same] at e; omega
      · rw [up_ne e0] at hx; rw [rnew_ne e0] at e; have := lt0 x hx; omega) hB ⟨by show (2 : Nat) < _; omega, hout.trans (congrArg some (arrV_congr fun j hj => by
        have hj2 : j < 2 := hj
        rw [if_pos hj2]
        rcases (by omega : j = 0 ∨ j = 1) with rfl | rfl
        · show Value.ref _ = Value.ref _
          rw [rnew_ne (by simp), rnew_ne (by simp), show ((14, ((0 : Nat) : Int)) : Nm) = (14, 0) from rfl, rnew_same]
        · show Value.ref _ = Value.ref _
          rw [rnew_ne (by simp), show ((14, ((1 : Nat) : Int)) : Nm) = (14, 1) from rfl, rnew_same]))⟩ (fun j hj => by
        have hj2 : j < 2 := hj
        show rwH h (14, (j : Int)) ≠ none
        rcases (by omega : j = 0 ∨ j = 1) with rfl | rfl
        · unfold rwH
          rw [up_ne (by simp), up_ne (by simp)]
          show up h (14, 0) _ (14, 0) ≠ none
          rw [up_same]; simp
        · unfold rwH
          rw [up_ne (by simp)]
          show up _ (14, 1) _ (14, 1) ≠ none
          rw [up_same]; simp)
  have ag : Ag h ρ (rwH h) (rnew (rnew (rnew ρ (14, 0) (H.size + 1)) (14, 1) (H.size + 2)) (13, 0) H.size) := ((up_ag_new hf1 ρ _).tr (up_ag_new g2 _ _)).tr (up_ag_new g3 _ _)
  have hmap : st.map (val (rnew (rnew (rnew ρ (14, 0) (H.size + 1)) (14, 1) (H.size + 2)) (13, 0) H.size)) = st.map (val ρ) := ag_map ag hs'
  have hsz : F.heap.size = H.size + 3 := by rw [q2] at f1; omega
  have K := kk _ F.heap locs ls R3 (hA.tr ag) (List.forall_mem_cons.mpr ⟨by show rwH h (13, 0) ≠ none; unfold rwH; rw [up_same]; simp, fun v hv => (Cl.ag ag (hs' v hv)).1⟩) (fun v hv => (Cl.ag ag (hL v hv)).1) ⟨hl.1, hl.2.1, fun i v hi => by rw [(Cl.ag ag (hL v (List.mem_of_getElem? hi))).2]; exact hl.2.2 i v hi⟩ ⟨Nat.le_trans hS.1 (by omega), fun x g1 g2 => (hold x (Nat.lt_of_lt_of_le g1 hS.1)).trans (hS.2.1 x g1 g2), hS.2.2⟩
  rw [List.map_cons, hmap] at K
  simp only [val, rnew_same] at K
  obtain ⟨t, a1, b1⟩ := K F rfl X'
  refine ⟨t, stp t ?_, b1⟩
  rw [hT]
  exact a1
end Rules5
