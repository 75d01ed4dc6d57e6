/-! ===== the law's own walk: its script is no cell of ours ===== -/
def LB (args : Array Value) (ρ : Nm → Nat) (ls : Array Slot) (L : List (Option AV)) : Prop := ls.size = L.length ∧ lv_wf ls ∧ (∀ (i : Nat) (v : AV), L[i]? = some (some v) → ls[i]? = some (.val (val ρ v))) ∧ ∃ b : Nat, args = #[Value.ref b] ∧ ls[0]? = some (.val (.ref b))
def JL (w : MC) (n1 n2 pc : Nat) (L : List (Option AV)) (st : List AV) (h : AH) : Prop := match w with
  | (p, l, e, R, s, m, args, below, meth, c, Q, G, B, ρ0, h0) => ∀ (ρ : Nm → Nat) (H : Heap) (locs : List Loc) (ls : Array Slot), Rep G B ρ h H → Ag h0 ρ0 h ρ → (∀ v ∈ st, Cl h v) → (∀ v, some v ∈ L → Cl h v) → LB args ρ ls L → va_S (fun q => B ≤ q) s.heap H locs →
    W p l e R s m args below meth c H locs n1 n2 Q (F0 m pc ls (st.map (val ρ)))
theorem LB.hz {args : Array Value} {ρ : Nm → Nat} {ls : Array Slot} {L : List (Option AV)} (h : LB args ρ ls L) : ∃ b : Nat, args = #[Value.ref b] ∧ lv_has ls L.length ((0, .ref b) :: prs ρ L) := by
  obtain ⟨h1, h2, h3, b, h4, h5⟩ := h
  refine ⟨b, h4, h1, h2, fun q hq => ?_⟩
  rcases List.mem_cons.mp hq with rfl | hq
  · exact h5
  · obtain ⟨v, g1, g2⟩ := prs_mem.mp hq
    rw [g2]
    exact h3 _ _ g1
theorem LB.of1 {args : Array Value} {ρ : Nm → Nat} {ls' : Array Slot} {L : List (Option AV)} {i b : Nat} {v : AV} (h0 : i ≠ 0) (hb : args = #[Value.ref b]) (h : lv_has ls' L.length ((i, val ρ v) :: ((0, Value.ref b) :: prs ρ L).filter (fun q => !(q.1 == i) && !(q.1 + 1 == i && q.2.category == 2)))) : LB args ρ ls' (set1 L i v) := by
  have hf : ((0, Value.ref b) :: prs ρ L).filter (fun q => !(q.1 == i) && !(q.1 + 1 == i && q.2.category == 2)) = (0, Value.ref b) :: (prs ρ L).filter (fun q => !(q.1 == i) && !(q.1 + 1 == i && q.2.category == 2)) := by
    rw [List.filter_cons_of_pos]
    have h1 : (0 == i) = false := by simpa using fun z : 0 = i => h0 z.symm
    show (!(0 == i) && !(0 + 1 == i && (1 == 2))) = true
    rw [h1]
    simp
  rw [hf] at h
  have hv : LV ρ ls' (set1 L i v) := LV.of1 ⟨h.1, h.2.1, fun q hq => h.2.2 q (by
    rcases List.mem_cons.mp hq with rfl | hq
    · exact List.mem_cons_self
    · exact List.mem_cons_of_mem _ (List.mem_cons_of_mem _ hq))⟩
  exact ⟨hv.1, hv.2.1, hv.2.2, b, hb, h.2.2 (0, Value.ref b) (List.mem_cons_of_mem _ List.mem_cons_self)⟩
section LRules
variable {w : MC} {k : WC} {d mc ms : Nat} {y : MD} {n1 n2 m1 m2 pc : Nat} {L : List (Option AV)} {st : List AV} {h : AH}
theorem l_widen {n1' n2' : Nat} (h1 : n1 ≤ n1') (h2 : n2 ≤ n2') (kk : JL w n1' n2' pc L st h) : JL w n1 n2 pc L st h := by
  obtain ⟨p, l, e, R, s, m, args, below, meth, c, Q, G, B, ρ0, h0⟩ := w
  intro ρ H locs ls hR hA hs hL hl hS
  exact W.widen h1 h2 (kk ρ H locs ls hR hA hs hL hl hS)
theorem l_norm {v : Int} (kk : JL w n1 n2 pc L (vI (nrI v) :: st) h) : JL w n1 n2 pc L (vI v :: st) h := by
  obtain ⟨p, l, e, R, s, m, args, below, meth, c, Q, G, B, ρ0, h0⟩ := w
  intro ρ H locs ls hR hA hs hL hl hS
  have K := kk ρ H locs ls hR hA (List.forall_mem_cons.mpr ⟨trivial, fun v hv => hs v (List.mem_cons_of_mem _ hv)⟩) hL hl hS
  rw [List.map_cons, nrI_v] at K
  exact K
theorem l_dup {a : AV} (hc : Cx w k d mc ms y) (hd : decode y.2.1 pc = .ok (.dup, 1)) (hv : vcat a = 1) (kk : JL w n1 n2 (pc + 1) L (a :: a :: st) h) : JL w n1 n2 pc L (a :: st) h := by
  obtain ⟨p, l, e, R, s, m, args, below, meth, c, Q, G, B, ρ0, h0⟩ := w
  obtain ⟨hx, hb, hml, hown, hts, hK, hlk, hBs, hnm, hfr, hlo, hce, hsl, hk, hret⟩ := hc
  intro ρ H locs ls hR hA hs hL hl hS
  exact lv_dup hx hb hd (by rw [val_cat]; exact hv) (kk ρ H locs ls hR hA (List.forall_mem_cons.mpr ⟨hs _ List.mem_cons_self, hs⟩) hL hl hS)
theorem l_iconst {n : Int} (hc : Cx w k d mc ms y) (hd : decode y.2.1 pc = .ok (.iconst n, 1)) (kk : JL w n1 n2 (pc + 1) L (vI n :: st) h) : JL w n1 n2 pc L st h := by
  obtain ⟨p, l, e, R, s, m, args, below, meth, c, Q, G, B, ρ0, h0⟩ := w
  obtain ⟨hx, hb, hml, hown, hts, hK, hlk, hBs, hnm, hfr, hlo, hce, hsl, hk, hret⟩ := hc
  intro ρ H locs ls hR hA hs hL hl hS
  exact lv_iconst hx hb hd rfl (kk ρ H locs ls hR hA (List.forall_mem_cons.mpr ⟨trivial, hs⟩) hL hl hS)
theorem l_bipush {n : Int} (hc : Cx w k d mc ms y) (hd : decode y.2.1 pc = .ok (.bipush n, 2)) (hv : (Int8.ofInt n).toInt32 = Int32.ofInt n) (kk : JL w n1 n2 (pc + 2) L (vI n :: st) h) : JL w n1 n2 pc L st h := by
  obtain ⟨p, l, e, R, s, m, args, below, meth, c, Q, G, B, ρ0, h0⟩ := w
  obtain ⟨hx, hb, hml, hown, hts, hK, hlk, hBs, hnm, hfr, hlo, hce, hsl, hk, hret⟩ := hc
  intro ρ H locs ls hR hA hs hL hl hS
  exact lv_bipush hx hb hd hv (kk ρ H locs ls hR hA (List.forall_mem_cons.mpr ⟨trivial, hs⟩) hL hl hS)
theorem l_isub {a b : Int} (hc : Cx w k d mc ms y) (hd : decode y.2.1 pc = .ok (.isub, 1)) (kk : JL w n1 n2 (pc + 1) L (vI (a - b) :: st) h) : JL w n1 n2 pc L (vI b :: vI a :: st) h := by
  obtain ⟨p, l, e, R, s, m, args, below, meth, c, Q, G, B, ρ0, h0⟩ := w
  obtain ⟨hx, hb, hml, hown, hts, hK, hlk, hBs, hnm, hfr, hlo, hce, hsl, hk, hret⟩ := hc
  intro ρ H locs ls hR hA hs hL hl hS
  have K := kk ρ H locs ls hR hA (List.forall_mem_cons.mpr ⟨trivial, fun v hv => hs v (List.mem_cons_of_mem _ (List.mem_cons_of_mem _ hv))⟩) hL hl hS
  refine lv_isub hx hb hd ?_
  rw [← Int32.ofInt_sub]
  exact K
theorem l_icmp_gt {a b : Int} {off : Int} {tgt : Nat} (hc : Cx w k d mc ms y) (hd : decode y.2.1 pc = .ok (.if_icmp .gt off, 3)) (ht : (pc : Int) + off = (tgt : Int)) (ha : inI a) (hb0 : inI b) (kt : a > b → JL w n1 n2 tgt L st h) (kf : ¬ (a > b) → JL w n1 n2 (pc + 3) L st h) : JL w n1 n2 pc L (vI b :: vI a :: st) h := by
  obtain ⟨p, l, e, R, s, m, args, below, meth, c, Q, G, B, ρ0, h0⟩ := w
  obtain ⟨hx, hb, hml, hown, hts, hK, hlk, hBs, hnm, hfr, hlo, hce, hsl, hk, hret⟩ := hc
  intro ρ H locs ls hR hA hs hL hl hS
  exact lv_icmp_gt hx hb hd ht (fun q => kt ((i32_lt hb0 ha).mp q) ρ H locs ls hR hA (fun v hv => hs v (List.mem_cons_of_mem _ (List.mem_cons_of_mem _ hv))) hL hl hS) (fun q => kf (fun z => q ((i32_lt hb0 ha).mpr z)) ρ H locs ls hR hA (fun v hv => hs v (List.mem_cons_of_mem _ (List.mem_cons_of_mem _ hv))) hL hl hS)
theorem l_iand {a b r : Int} (hc : Cx w k d mc ms y) (hd : decode y.2.1 pc = .ok (.iand, 1)) (hr : Int32.ofInt a &&& Int32.ofInt b = Int32.ofInt r) (kk : JL w n1 n2 (pc + 1) L (vI r :: st) h) : JL w n1 n2 pc L (vI b :: vI a :: st) h := by
  obtain ⟨p, l, e, R, s, m, args, below, meth, c, Q, G, B, ρ0, h0⟩ := w
  obtain ⟨hx, hb, hml, hown, hts, hK, hlk, hBs, hnm, hfr, hlo, hce, hsl, hk, hret⟩ := hc
  intro ρ H locs ls hR hA hs hL hl hS
  have K := kk ρ H locs ls hR hA (List.forall_mem_cons.mpr ⟨trivial, fun v hv => hs v (List.mem_cons_of_mem _ (List.mem_cons_of_mem _ hv))⟩) hL hl hS
  refine lv_iand hx hb hd ?_
  rw [hr]
  exact K
theorem l_tableIn {a : Int} {dflt lo hi off : Int} {offs : Array Int} {len tgt : Nat} (hc : Cx w k d mc ms y) (hd : decode y.2.1 pc = .ok (.tableswitch dflt lo hi offs, len)) (ha : inI a) (h1 : ¬ a < lo) (h2 : ¬ hi < a) (ho : offs[(a - lo).toNat]? = some off) (ht : (pc : Int) + off = (tgt : Int)) (kk : JL w n1 n2 tgt L st h) : JL w n1 n2 pc L (vI a :: st) h := by
  obtain ⟨p, l, e, R, s, m, args, below, meth, c, Q, G, B, ρ0, h0⟩ := w
  obtain ⟨hx, hb, hml, hown, hts, hK, hlk, hBs, hnm, hfr, hlo, hce, hsl, hk, hret⟩ := hc
  intro ρ H locs ls hR hA hs hL hl hS
  exact lv_tableIn hx hb hd (by rw [i32_toInt ha]; exact h1) (by rw [i32_toInt ha]; exact h2) (by rw [i32_toInt ha]; exact ho) ht (kk ρ H locs ls hR hA (fun v hv => hs v (List.mem_cons_of_mem _ hv)) hL hl hS)
theorem l_tableOut {a : Int} {dflt lo hi : Int} {offs : Array Int} {len tgt : Nat} (hc : Cx w k d mc ms y) (hd : decode y.2.1 pc = .ok (.tableswitch dflt lo hi offs, len)) (ha : inI a) (hr : a < lo ∨ hi < a) (ht : (pc : Int) + dflt = (tgt : Int)) (kk : JL w n1 n2 tgt L st h) : JL w n1 n2 pc L (vI a :: st) h := by
  obtain ⟨p, l, e, R, s, m, args, below, meth, c, Q, G, B, ρ0, h0⟩ := w
  obtain ⟨hx, hb, hml, hown, hts, hK, hlk, hBs, hnm, hfr, hlo, hce, hsl, hk, hret⟩ := hc
  intro ρ H locs ls hR hA hs hL hl hS
  exact lv_tableOut hx hb hd (by rw [i32_toInt ha]; exact hr) ht (kk ρ H locs ls hR hA (fun v hv => hs v (List.mem_cons_of_mem _ hv)) hL hl hS)
theorem l_aload_n {i : Fin 4} {x : Option Nm} (hc : Cx w k d mc ms y) (hd : decode y.2.1 pc = .ok (.aload_n i, 1)) (hi : L[(i : Nat)]? = some (some (vO x))) (kk : JL w n1 n2 (pc + 1) L (vO x :: st) h) : JL w n1 n2 pc L st h := by
  obtain ⟨p, l, e, R, s, m, args, below, meth, c, Q, G, B, ρ0, h0⟩ := w
  obtain ⟨hx, hb, hml, hown, hts, hK, hlk, hBs, hnm, hfr, hlo, hce, hsl, hk, hret⟩ := hc
  intro ρ H locs ls hR hA hs hL hl hS
  have K := kk ρ H locs ls hR hA (List.forall_mem_cons.mpr ⟨hL _ (List.mem_of_getElem? hi), hs⟩) hL hl hS
  cases x with
  | none => exact lv_aload_nN hx hb hd rfl (hl.2.2.1 i _ hi) K
  | some n => exact lv_aload_n hx hb hd rfl (hl.2.2.1 i _ hi) K
theorem l_iload {i : Nat} {x : Int} (hc : Cx w k d mc ms y) (hd : decode y.2.1 pc = .ok (.iload i, 2)) (hi : L[i]? = some (some (vI x))) (kk : JL w n1 n2 (pc + 2) L (vI x :: st) h) : JL w n1 n2 pc L st h := by
  obtain ⟨p, l, e, R, s, m, args, below, meth, c, Q, G, B, ρ0, h0⟩ := w
  obtain ⟨hx, hb, hml, hown, hts, hK, hlk, hBs, hnm, hfr, hlo, hce, hsl, hk, hret⟩ := hc
  intro ρ H locs ls hR hA hs hL hl hS
  exact lv_iload hx hb hd (hl.2.2.1 i _ hi) (kk ρ H locs ls hR hA (List.forall_mem_cons.mpr ⟨trivial, hs⟩) hL hl hS)
theorem l_i2l {a : Int} (hc : Cx w k d mc ms y) (hd : decode y.2.1 pc = .ok (.i2l, 1)) (ha : inI a) (kk : JL w n1 n2 (pc + 1) L (vL a :: st) h) : JL w n1 n2 pc L (vI a :: st) h := by
  obtain ⟨p, l, e, R, s, m, args, below, meth, c, Q, G, B, ρ0, h0⟩ := w
  obtain ⟨hx, hb, hml, hown, hts, hK, hlk, hBs, hnm, hfr, hlo, hce, hsl, hk, hret⟩ := hc
  intro ρ H locs ls hR hA hs hL hl hS
  have K := kk ρ H locs ls hR hA (List.forall_mem_cons.mpr ⟨trivial, fun v hv => hs v (List.mem_cons_of_mem _ hv)⟩) hL hl hS
  exact lv_i2l hx hb hd (Int32.toInt64_ofInt ha.1 ha.2) K
theorem l_if_ne {a b : Int} {off : Int} {tgt : Nat} (hc : Cx w k d mc ms y) (hd : decode y.2.1 pc = .ok (.ifCond .ne off, 3)) (ht : (pc : Int) + off = (tgt : Int)) (ha : inI a) (kt : ¬ (a = 0) → JL w n1 n2 tgt L st h) (kf : a = 0 → JL w n1 n2 (pc + 3) L st h) : JL w n1 n2 pc L (vI a :: st) h := by
  obtain ⟨p, l, e, R, s, m, args, below, meth, c, Q, G, B, ρ0, h0⟩ := w
  obtain ⟨hx, hb, hml, hown, hts, hK, hlk, hBs, hnm, hfr, hlo, hce, hsl, hk, hret⟩ := hc
  intro ρ H locs ls hR hA hs hL hl hS
  exact lv_if_ne hx hb hd ht (fun q => kt (fun z => q ((i32_eq ha ⟨by omega, by omega⟩).mpr z)) ρ H locs ls hR hA (fun v hv => hs v (List.mem_cons_of_mem _ hv)) hL hl hS) (fun q => kf ((i32_eq ha ⟨by omega, by omega⟩).mp q) ρ H locs ls hR hA (fun v hv => hs v (List.mem_cons_of_mem _ hv)) hL hl hS)
theorem l_if_eq {a b : Int} {off : Int} {tgt : Nat} (hc : Cx w k d mc ms y) (hd : decode y.2.1 pc = .ok (.ifCond .eq off, 3)) (ht : (pc : Int) + off = (tgt : Int)) (ha : inI a) (kt : a = 0 → JL w n1 n2 tgt L st h) (kf : ¬ (a = 0) → JL w n1 n2 (pc + 3) L st h) : JL w n1 n2 pc L (vI a :: st) h := by
  obtain ⟨p, l, e, R, s, m, args, below, meth, c, Q, G, B, ρ0, h0⟩ := w
  obtain ⟨hx, hb, hml, hown, hts, hK, hlk, hBs, hnm, hfr, hlo, hce, hsl, hk, hret⟩ := hc
  intro ρ H locs ls hR hA hs hL hl hS
  exact lv_if_eq hx hb hd ht (fun q => kt ((i32_eq ha ⟨by omega, by omega⟩).mp q) ρ H locs ls hR hA (fun v hv => hs v (List.mem_cons_of_mem _ hv)) hL hl hS) (fun q => kf (fun z => q ((i32_eq ha ⟨by omega, by omega⟩).mpr z)) ρ H locs ls hR hA (fun v hv => hs v (List.mem_cons_of_mem _ hv)) hL hl hS)
theorem l_goto {off : Int} {tgt : Nat} (hc : Cx w k d mc ms y) (hd : decode y.2.1 pc = .ok (.goto off, 3)) (ht : (pc : Int) + off = (tgt : Int)) (kk : JL w n1 n2 tgt L st h) : JL w n1 n2 pc L st h := by
  obtain ⟨p, l, e, R, s, m, args, below, meth, c, Q, G, B, ρ0, h0⟩ := w
  obtain ⟨hx, hb, hml, hown, hts, hK, hlk, hBs, hnm, hfr, hlo, hce, hsl, hk, hret⟩ := hc
  intro ρ H locs ls hR hA hs hL hl hS
  exact lv_goto hx hb hd ht (kk ρ H locs ls hR hA hs hL hl hS)
theorem l_new {nm : Nm} {ci idx : Nat} {fs : List AV} (hc : Cx w k d mc ms y) (hd : decode y.2.1 pc = .ok (.new idx, 3)) (hs0 : NW y.1.cls idx ci fs) (hf : h nm = none) (h1 : n1 + 1 ≤ mc) (h2 : n2 + fs.length ≤ ms) (kk : JL w (n1 + 1) (n2 + fs.length) (pc + 3) L (vR nm :: st) (up h nm (oO ci fs))) : JL w n1 n2 pc L st h := by
  obtain ⟨p, l, e, R, s, m, args, below, meth, c, Q, G, B, ρ0, h0⟩ := w
  obtain ⟨hx, hb, hml, hown, hts, hK, hlk, hBs, hnm, hfr, hlo, hce, hsl, hk, hret⟩ := hc
  intro ρ H locs ls hR hA hs hL hl hS
  obtain ⟨r, ty, hr, hlen, hcl, hinst, hini, hty, hdf⟩ := hs0
  have hKn := hK.1.1 ci _ hr
  rw [hlen] at kk h2
  have hcf : ∀ v ∈ fs, Cl (up h nm (oO ci fs)) v := fun v hv => by
    obtain ⟨j, hj⟩ := List.getElem?_of_mem hv
    have hjl : j < r.2.2 := by rw [← hlen]; exact (List.getElem?_eq_some_iff.mp hj).1
    have := (hdf j hjl).2
    rw [hj] at this
    cases this
    cases ty j <;> trivial
  refine W.newcK hx hb hown (hts _ hcl) (hts _ hinst) (hts _ hini) rfl hd (Nat.le_trans h1 hce) (Nat.le_trans h2 hsl) hKn.2.1 rfl fun H1 kC hkC e1 z1 o1 => ?_
  have ag := up_ag_new (o := oO ci fs) hf ρ H.size
  have hB : B ≤ H.size := Nat.le_trans hBs hS.1
  have hob := u_born ty hts (cls_tb hr) hKn hkC e1 hty
  have hR' : Rep G B (rnew ρ nm H.size) (up h nm (oO ci fs)) H1 := hR.new hf o1 hB ⟨r, hr, hlen, hob.to fun j hj => by
    rw [List.getD_eq_getElem?_getD, (hdf j hj).2]
    exact dfl_ok _ (hdf j hj).1⟩ hcf
  have hmap : st.map (val (rnew ρ nm H.size)) = st.map (val ρ) := ag_map ag hs
  have K := kk (rnew ρ nm H.size) H1 locs ls hR' (hA.tr ag) (List.forall_mem_cons.mpr ⟨by show up h nm _ nm ≠ none; rw [up_same]; simp, fun v hv => (hs v hv).w⟩) (fun v hv => (hL v hv).w) ⟨hl.1, hl.2.1, fun i v hi => by rw [(Cl.ag ag (hL v (List.mem_of_getElem? hi))).2]; exact hl.2.2.1 i v hi, hl.2.2.2⟩ ⟨Nat.le_trans hS.1 (by omega), fun x g1 g2 => (o1 x (Nat.lt_of_lt_of_le g1 hS.1)).trans (hS.2.1 x g1 g2), hS.2.2⟩
  rw [List.map_cons, hmap] at K
  simp only [val, rnew_same] at K
  exact K
theorem l_newL {nm : Nm} {n : Int} (hc : Cx w k d mc ms y) (hd : decode y.2.1 pc = .ok (.newarray .long, 2)) (hw : Cond.arrayClass .long ∈ tb) (hf : h nm = none) (hn0 : 0 ≤ n) (hn1 : n < 60000000) (h1 : n1 + 1 ≤ mc) (h2 : n2 + n.toNat ≤ ms) (kk : JL w (n1 + 1) (n2 + n.toNat) (pc + 2) L (vR nm :: st) (up h nm (oP 1 n.toNat (fun _ => 0)))) : JL w n1 n2 pc L (vI n :: st) h := by
  obtain ⟨p, l, e, R, s, m, args, below, meth, c, Q, G, B, ρ0, h0⟩ := w
  obtain ⟨hx, hb, hml, hown, hts, hK, hlk, hBs, hnm, hfr, hlo, hce, hsl, hk, hret⟩ := hc
  intro ρ H locs ls hR hA hs hL hl hS
  refine va_newaK (atype := .long) hx hb (hts _ hw) rfl hd rfl (N := n.toNat) ?_ (i32_nat hn0 (by omega)) (by show n.toNat * _ ≤ _; simp only [newarray.typeOf, componentBytes]; omega) (Nat.le_trans h1 hce) (Nat.le_trans h2 hsl) rfl fun H1 cA e1 z1 o1 hAr hNm => ?_
  · intro q; rw [i32_zero, i32_lt ⟨by omega, by omega⟩ ⟨by omega, by omega⟩] at q; omega
  have ag := up_ag_new (o := oP 1 n.toNat (fun _ => 0)) hf ρ H.size
  have hB : B ≤ H.size := Nat.le_trans hBs hS.1
  have hcA : cA = G.2.2 1 := Option.some.inj (hNm.symm.trans (hK.1.2 1 (G.2.2 1, .long) rfl).2)
  subst hcA
  have hR' : Rep G B (rnew ρ nm H.size) (up h nm (oP 1 n.toNat (fun _ => 0))) H1 := hR.new hf o1 hB ⟨by show n.toNat < _; omega, e1⟩ trivial
  have hmap : st.map (val (rnew ρ nm H.size)) = st.map (val ρ) := ag_map ag (fun v hv => hs v (List.mem_cons_of_mem _ hv))
  have K := kk (rnew ρ nm H.size) H1 locs ls hR' (hA.tr ag) (List.forall_mem_cons.mpr ⟨by show up h nm _ nm ≠ none; rw [up_same]; simp, fun v hv => (hs v (List.mem_cons_of_mem _ hv)).w⟩) (fun v hv => (hL v hv).w) ⟨hl.1, hl.2.1, fun i v hi => by rw [(Cl.ag ag (hL v (List.mem_of_getElem? hi))).2]; exact hl.2.2.1 i v hi, hl.2.2.2⟩ ⟨Nat.le_trans hS.1 (by omega), fun x g1 g2 => (o1 x (Nat.lt_of_lt_of_le g1 hS.1)).trans (hS.2.1 x g1 g2), hS.2.2⟩
  rw [List.map_cons, hmap] at K
  simp only [val, rnew_same] at K
  exact K
theorem l_lald {n : Nm} {len : Nat} {f : Int → Int} {i : Int} (hc : Cx w k d mc ms y) (hd : decode y.2.1 pc = .ok (.laload, 1)) (hh : h n = some (oP 1 len f)) (h0i : 0 ≤ i) (h1i : i < len) (kk : JL w n1 n2 (pc + 1) L (vL (f i) :: st) h) : JL w n1 n2 pc L (vI i :: vR n :: st) h := by
  obtain ⟨p, l, e, R, s, m, args, below, meth, c, Q, G, B, ρ0, h0⟩ := w
  obtain ⟨hx, hb, hml, hown, hts, hK, hlk, hBs, hnm, hfr, hlo, hce, hsl, hk, hret⟩ := hc
  intro ρ H locs ls hR hA hs hL hl hS
  obtain ⟨⟨hlen, hcell⟩, -, -⟩ := hR.1 n _ hh
  have hlen : len < 536870912 := hlen
  have hin := i32_vpin h0i h1i hlen
  refine W.lald (v := .long (Int64.ofInt (f i))) hx hb hcell ((hK.1.2 1 (G.2.2 1, .long) rfl).1 len _) (fun q => by cases q) (by rw [arrV_size]; exact hin) ?_ rfl rfl hd (kk ρ H locs ls hR hA (List.forall_mem_cons.mpr ⟨trivial, fun v hv => hs v (List.mem_cons_of_mem _ (List.mem_cons_of_mem _ hv))⟩) hL hl hS)
  rw [i32_nat h0i (by omega), arrV_read _ _ (by show i.toNat < len; omega)]
  show some (pv 1 (f (i.toNat : Int))) = _
  rw [show ((i.toNat : Nat) : Int) = i by omega]
  rfl
theorem l_astore_n {i : Fin 4} {x : Option Nm} {L' : List (Option AV)} (hc : Cx w k d mc ms y) (hd : decode y.2.1 pc = .ok (.astore_n i, 1)) (hi : (i : Nat) < L.length) (h0i : (i : Nat) ≠ 0) (hL' : set1 L i (vO x) = L') (kk : JL w n1 n2 (pc + 1) L' st h) : JL w n1 n2 pc L (vO x :: st) h := by
  obtain ⟨p, l, e, R, s, m, args, below, meth, c, Q, G, B, ρ0, h0⟩ := w
  obtain ⟨hx, hb, hml, hown, hts, hK, hlk, hBs, hnm, hfr, hlo, hce, hsl, hk, hret⟩ := hc
  intro ρ H locs ls hR hA hs hL hl hS
  obtain ⟨b9, hba, hz0⟩ := hl.hz
  subst hL'
  cases x with
  | none => exact lv_astore_nN hx hb hd rfl hz0 hi rfl (fun ls' hl' => kk ρ H locs ls' hR hA (fun v hv => hs v (List.mem_cons_of_mem _ hv)) (set1_cl hL trivial) (LB.of1 h0i hba hl') hS)
  | some n => exact lv_astore_n hx hb hd rfl hz0 hi rfl (fun ls' hl' => kk ρ H locs ls' hR hA (fun v hv => hs v (List.mem_cons_of_mem _ hv)) (set1_cl hL (hs _ List.mem_cons_self)) (LB.of1 h0i hba hl') hS)
theorem l_istore {i : Nat} {x : Int} {L' : List (Option AV)} (hc : Cx w k d mc ms y) (hd : decode y.2.1 pc = .ok (.istore i, 2)) (hi : i < L.length) (h0i : (i : Nat) ≠ 0) (hL' : set1 L i (vI x) = L') (kk : JL w n1 n2 (pc + 2) L' st h) : JL w n1 n2 pc L (vI x :: st) h := by
  obtain ⟨p, l, e, R, s, m, args, below, meth, c, Q, G, B, ρ0, h0⟩ := w
  obtain ⟨hx, hb, hml, hown, hts, hK, hlk, hBs, hnm, hfr, hlo, hce, hsl, hk, hret⟩ := hc
  intro ρ H locs ls hR hA hs hL hl hS
  obtain ⟨b9, hba, hz0⟩ := hl.hz
  subst hL'
  exact lv_istore hx hb hd hz0 hi rfl (fun ls' hl' => kk ρ H locs ls' hR hA (fun v hv => hs v (List.mem_cons_of_mem _ hv)) (set1_cl hL trivial) (LB.of1 h0i hba hl') hS)
theorem l_iinc {i : Nat} {x n : Int} {L' : List (Option AV)} (hc : Cx w k d mc ms y) (hd : decode y.2.1 pc = .ok (.iinc i n, 3)) (hx0 : L[i]? = some (some (vI x))) (hi : i < L.length) (h0i : (i : Nat) ≠ 0) (hL' : set1 L i (vI (x + n)) = L') (kk : JL w n1 n2 (pc + 3) L' st h) : JL w n1 n2 pc L st h := by
  obtain ⟨p, l, e, R, s, m, args, below, meth, c, Q, G, B, ρ0, h0⟩ := w
  obtain ⟨hx, hb, hml, hown, hts, hK, hlk, hBs, hnm, hfr, hlo, hce, hsl, hk, hret⟩ := hc
  intro ρ H locs ls hR hA hs hL hl hS
  obtain ⟨b9, hba, hz0⟩ := hl.hz
  subst hL'
  obtain ⟨j, hj⟩ := List.getElem?_of_mem (List.mem_cons_of_mem (0, Value.ref b9) (prs_mem.mpr ⟨vI x, hx0, rfl⟩ : (i, val ρ (vI x)) ∈ prs ρ L))
  exact lv_iinc hx hb hd hz0 hj (by rw [← Int32.ofInt_add]) hi rfl (fun ls' hl' => kk ρ H locs ls' hR hA hs (set1_cl hL trivial) (LB.of1 (v := vI (x + n)) h0i hba hl') hS)
theorem call_finL {p : Program} {l : Launch} {e : Env} {R : Room} {s : State} {m : MethodId} {args : Array Value} {below : List Frame} {meth : Method} {c : Code} {Q : State → Prop} {G : GG} {B : Nat} {ρ0 : Nm → Nat} {h0 : AH} {ρ : Nm → Nat} {H : Heap} {locs : List Loc} {ls : Array Slot} {mc' ms' : Nat} {Post : Option AV → AH → Prop} {av : Array Value} {st0 : List Value}
    (hA : Ag h0 ρ0 h ρ) (hs : ∀ v ∈ st, Cl h v) (hL : ∀ v, some v ∈ L → Cl h v) (hl : LB args ρ ls L) (hS : va_S (fun q => B ≤ q) s.heap H locs)
    (hr : va_Run p l e R s m args below meth c H locs n1 n2 mc' ms' (F0 m pc ls st0) (st.map (val ρ)) (QcOf G B ρ h Post av) (fun q => B ≤ q))
    (kk : ∀ (r : Option AV) (h' : AH), Post r h' → JL (p, l, e, R, s, m, args, below, meth, c, Q, G, B, ρ0, h0) (n1 + mc') (n2 + ms') (pc + 3) L (r.toList ++ st) h') :
    W p l e R s m args below meth c H locs n1 n2 Q (F0 m pc ls st0) := by
  intro T hT X
  obtain ⟨v, st₀, t, T', Lc, g0, X', hLc, e1, e2, ⟨⟨ρ', r, h', hAg, hv, hp, hcl, hR'⟩, hz, hkeep⟩, hgo⟩ := hr T hT X
  cases hv
  rw [g0] at hz hkeep
  have hcs : ∀ v ∈ r.toList ++ st, Cl h' v := fun v hv => by
    rcases List.mem_append.mp hv with q | q
    · exact hcl v (Option.mem_toList.mp q)
    · exact (Cl.ag hAg (hs v q)).1
  have K := kk r h' hp ρ' T'.heap (locs ++ Lc) ls (by rw [e1]; exact hR') (hA.tr hAg) hcs (fun v hv => (Cl.ag hAg (hL v hv)).1) ⟨hl.1, hl.2.1, fun i v hi => by rw [(Cl.ag hAg (hL v (List.mem_of_getElem? hi))).2]; exact hl.2.2.1 i v hi, hl.2.2.2⟩
    ⟨Nat.le_trans hS.1 (by rw [e1]; exact hz), fun q g1 g2 => by rw [e1, hkeep q (Nat.lt_of_lt_of_le g1 hS.1) g2]; exact hS.2.1 q g1 g2, fun q hq => by
      rcases List.mem_append.mp hq with q1 | q1
      · exact hS.2.2 q q1
      · exact hLc q q1⟩
  have em : (r.toList ++ st).map (val ρ') = (r.map (val ρ')).toList ++ st.map (val ρ) := by
    rw [List.map_append, ag_map hAg hs]
    cases r <;> rfl
  rw [em] at K
  obtain ⟨t2, a1, b1⟩ := K T' rfl X'
  exact ⟨t2, hgo t2 a1, b1⟩
theorem l_callV {idx : Nat} {n9 : Nm} {ci : Nat} {fs : List AV} {d' n mc' ms' : Nat} {as : List AV} {y' : MD} {st0 : List AV} {Post : Option AV → AH → Prop} (hc : Cx w k d mc ms y) (hd : decode y.2.1 pc = .ok (.invokevirtual idx, 3)) (hs0 : SV y.1.cls idx ci n y') (hh : h n9 = some (oO ci fs)) (he : Ev k d' y' h (vR n9 :: as) mc' ms' Post) (hst : st0 = as.reverse ++ vR n9 :: st) (hd' : d' + 1 ≤ d) (h1 : n1 + mc' ≤ mc) (h2 : n2 + ms' ≤ ms) (hLl : L.length = y.2.2.1) (hn : as.length = n) (hw : (st.map vcat).sum ≤ 8) (kk : ∀ (r : Option AV) (h' : AH), Post r h' → JL w (n1 + mc') (n2 + ms') (pc + 3) L (r.toList ++ st) h') : JL w n1 n2 pc L st0 h := by
  obtain ⟨p, l, e, R, s, m, args, below, meth, c, Q, G, B, ρ0, h0⟩ := w
  obtain ⟨hx, hb, hml, hown, hts, hK, hlk, hBs, hnm, hfr, hlo, hce, hsl, rfl, hret⟩ := hc
  intro ρ H locs ls hR hA hs hL hl hS
  subst hst
  subst hn
  obtain ⟨⟨r, hr, hsel⟩, hlink, hinst, hok⟩ := hs0
  obtain ⟨⟨r', hr', hlen, cell, q1, q2, q3, q4⟩, -, -⟩ := hR.1 n9 _ hh
  cases hr.symm.trans hr'
  have hcas : ∀ v ∈ vR n9 :: as, Cl h v := fun v hv => hs v (by
    rcases List.mem_cons.mp hv with rfl | hv
    · exact List.mem_append_right _ List.mem_cons_self
    · exact List.mem_append_left _ (List.mem_reverse.mpr hv))
  have hs' : ∀ v ∈ st, Cl h v := fun v hv => hs v (List.mem_append_right _ (List.mem_cons_of_mem _ hv))
  have hcat : ((st.map (val ρ)).map fun v => v.category).sum ≤ 8 := by
    rw [List.map_map]
    have e9 : ((fun v : Value => v.category) ∘ val ρ) = vcat := funext fun v => val_cat ρ v
    rw [e9]; exact hw
  refine call_finL hA hs' hL hl hS (va_runV (C := r.1) (As := as.map (val ρ)) (b := ρ n9) ⟨hx, hb, hml, hown, hts⟩ (he ρ) ⟨callB_of as.length hts (tb_code hok.2.2.1) rfl rfl rfl (hts _ hok.2.2.2) (hts _ hlink) hok.1 ⟨by show d' + 1 ≤ R.frames; omega, by show 8 + (y'.2.2.1 + 11) + 100 * d' ≤ R.locals; have := hok.2.1; omega⟩, hts _ hinst, hts _ hsel⟩ ⟨PcOf.blind, ⟨cell, q1, by rw [q3]; rfl, by rw [q2]; exact (hK.1.1 ci _ hr).2.1⟩, fun U hU hW => ⟨by simp [val], hcas, by rw [hU]; exact hR, hK.warm hW, by rw [hU]; exact Nat.le_trans hBs hS.1⟩⟩ rfl (by simp) (by show ls.size = y.2.2.1; rw [hl.1]; exact hLl) (by show ((as.reverse ++ vR n9 :: st).map (val ρ)) = (as.map (val ρ)).reverse ++ .ref (ρ n9) :: st.map (val ρ); simp [val]) (by show 2 * 0 + _ ≤ 8; rw [Nat.mul_zero, Nat.zero_add]; exact hcat) hd ⟨Nat.le_trans h1 hce, Nat.le_trans h2 hsl⟩) kk
theorem l_callI {idx : Nat} {n9 : Nm} {d' n mc' ms' : Nat} {as : List AV} {y' : MD} {st0 : List AV} {Post : Option AV → AH → Prop} (hc : Cx w k d mc ms y) (hd : decode y.2.1 pc = .ok (.invokespecial idx, 3)) (hs0 : SI y.1.cls idx n y') (he : Ev k d' y' h (vR n9 :: as) mc' ms' Post) (hst : st0 = as.reverse ++ vR n9 :: st) (hd' : d' + 1 ≤ d) (h1 : n1 + mc' ≤ mc) (h2 : n2 + ms' ≤ ms) (hLl : L.length = y.2.2.1) (hn : as.length = n) (hw : (st.map vcat).sum ≤ 8) (kk : ∀ (r : Option AV) (h' : AH), Post r h' → JL w (n1 + mc') (n2 + ms') (pc + 3) L (r.toList ++ st) h') : JL w n1 n2 pc L st0 h := by
  obtain ⟨p, l, e, R, s, m, args, below, meth, c, Q, G, B, ρ0, h0⟩ := w
  obtain ⟨hx, hb, hml, hown, hts, hK, hlk, hBs, hnm, hfr, hlo, hce, hsl, rfl, hret⟩ := hc
  intro ρ H locs ls hR hA hs hL hl hS
  subst hst
  subst hn
  obtain ⟨hlink, hinst, hnm', hrn, hok⟩ := hs0
  have hcas : ∀ v ∈ vR n9 :: as, Cl h v := fun v hv => hs v (by
    rcases List.mem_cons.mp hv with rfl | hv
    · exact List.mem_append_right _ List.mem_cons_self
    · exact List.mem_append_left _ (List.mem_reverse.mpr hv))
  have hs' : ∀ v ∈ st, Cl h v := fun v hv => hs v (List.mem_append_right _ (List.mem_cons_of_mem _ hv))
  have hcat : ((st.map (val ρ)).map fun v => v.category).sum ≤ 8 := by
    rw [List.map_map]
    have e9 : ((fun v : Value => v.category) ∘ val ρ) = vcat := funext fun v => val_cat ρ v
    rw [e9]; exact hw
  obtain ⟨yn, cc', nL', ret'⟩ := y'
  dsimp only at hrn
  subst hrn
  refine call_finL hA hs' hL hl hS (va_runI (As := as.map (val ρ)) (b := ρ n9) ⟨hx, hb, hml, hown, hts⟩ (he ρ) ⟨callB_of as.length hts (tb_code hok.2.2.1) rfl rfl rfl (hts _ hok.2.2.2) (hts _ hlink) hok.1 ⟨by show d' + 1 ≤ R.frames; omega, by show 8 + (nL' + 11) + 100 * d' ≤ R.locals; have := hok.2.1; dsimp only at this; omega⟩, hnm', hts _ hinst⟩ ⟨PcOf.blind, fun U hU hW => ⟨by simp [val], hcas, by rw [hU]; exact hR, hK.warm hW, by rw [hU]; exact Nat.le_trans hBs hS.1⟩⟩ rfl (by simp) (by show ls.size = y.2.2.1; rw [hl.1]; exact hLl) (by show ((as.reverse ++ vR n9 :: st).map (val ρ)) = (as.map (val ρ)).reverse ++ .ref (ρ n9) :: st.map (val ρ); simp [val]) (by show 2 * 0 + _ ≤ 8; rw [Nat.mul_zero, Nat.zero_add]; exact hcat) hd ⟨Nat.le_trans h1 hce, Nat.le_trans h2 hsl⟩) kk
theorem l_ret1 {v : AV} {h' : AH} (kk : JL w (n1 + m1) (n2 + m2) pc L (v :: st) h') : ∀ (r : Option AV) (h2 : AH), pr v h' r h2 → JL w (n1 + m1) (n2 + m2) pc L (r.toList ++ st) h2 := by
  rintro r h2 ⟨rfl, rfl⟩
  exact kk
theorem l_retE {P : AV → AH → Prop} (kk : ∀ v h', P v h' → JL w (n1 + m1) (n2 + m2) pc L (v :: st) h') : ∀ (r : Option AV) (h2 : AH), pe P r h2 → JL w (n1 + m1) (n2 + m2) pc L (r.toList ++ st) h2 := by
  rintro r h2 ⟨v, rfl, hp⟩
  exact kk v h2 hp
theorem l_retN {P : AH → Prop} (kk : ∀ h', P h' → JL w (n1 + m1) (n2 + m2) pc L st h') : ∀ (r : Option AV) (h2 : AH), pn P r h2 → JL w (n1 + m1) (n2 + m2) pc L (r.toList ++ st) h2 := by
  rintro r h2 ⟨rfl, hp⟩
  exact kk h2 hp
theorem l_newq {nm : Nm} {ci idx : Nat} {fs : List AV} {zq : Nat} (hq : fs.length = zq) (hc : Cx w k d mc ms y) (hd : decode y.2.1 pc = .ok (.new idx, 3)) (hs0 : NW y.1.cls idx ci fs) (hf : h nm = none) (h1 : n1 + 1 ≤ mc) (h2 : n2 + zq ≤ ms) (kk : JL w (n1 + 1) (n2 + zq) (pc + 3) L (vR nm :: st) (up h nm (oO ci fs))) : JL w n1 n2 pc L st h := by
  subst hq
  exact l_new hc hd hs0 hf h1 h2 kk
end LRules
