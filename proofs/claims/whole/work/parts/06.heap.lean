/-! ===== the rules over the heap ===== -/
def fitA : FieldType → AV → Bool
  | .int, .inl _ => true
  | .long, .inr (.inl _) => true
  | .object _, .inr (.inr _) => true
  | .array _, .inr (.inr _) => true
  | _, _ => false
theorem fitA_ok {ty : FieldType} {v : AV} (ρ : Nm → Nat) (h : fitA ty v = true) : fits ty (val ρ v) = true ∧ narrow ty (val ρ v) = val ρ v := by
  rcases v with x | x | (_ | n) <;> cases ty <;> first | exact ⟨rfl, rfl⟩ | cases h
theorem cls_in : ∀ q ∈ vwCl, (u_ws q.1 q.2.1 q.2.2).all (fun w => decide (w ∈ lw_tbl) && goodWord w) = true := by decide +kernel
theorem cls_tb {ci : Nat} {r : vw_C} (h : vwCl[ci]? = some r) : ∀ w ∈ u_ws r.1 r.2.1 r.2.2, w ∈ tb := fun w hw => by
  have := List.all_eq_true.mp (cls_in r (List.mem_of_getElem? h)) w hw
  simp only [Bool.and_eq_true, decide_eq_true_eq] at this
  exact List.mem_filter.mpr this
theorem cls_nm : ∀ q ∈ vwCl, ∀ a, a < q.2.2 → ∀ b, b < q.2.2 → a ≠ b → (q.2.1 a).2.1 ≠ (q.2.1 b).2.1 := by decide +kernel
theorem cls_ty : ∀ q ∈ vwCl, ∀ a, a < q.2.2 → (parseFieldDescriptor (q.2.1 a).2.2.1).isSome = true := by decide +kernel
theorem cls_apart {args : Array Value} {s : State} {G : GG} (hts : ∀ x ∈ tb, x.before args s = true) (hK : KN G s) {ci : Nat} {r : vw_C} (h : vwCl[ci]? = some r) : ∀ x y, x < r.2.2 → y < r.2.2 → x ≠ y → G.2.1 ci x ≠ G.2.1 ci y :=
  va_apart (own := "") hts (cls_tb h) (fun a => if ha : a < r.2.2 then (parseFieldDescriptor (r.2.1 a).2.2.1).get (cls_ty r (List.mem_of_getElem? h) a ha) else .int) (fun a ha => by rw [dif_pos ha]; exact (Option.some_get _).symm) (cls_nm r (List.mem_of_getElem? h)) hK.1 h
def FS (own : String) (idx ci kf : Nat) : Prop := ∃ (r : vw_C) (ref : String), vwCl[ci]? = some r ∧ kf < r.2.2 ∧ Cond.fieldLink own idx ref (r.2.1 kf).2.1 (r.2.1 kf).2.2.1 ∈ tb ∧ (ref = (r.2.1 kf).1 ∨ Cond.sameField ref (r.2.1 kf).1 (r.2.1 kf).2.1 (r.2.1 kf).2.2.1 ∈ tb)
def FP (own : String) (idx ci kf : Nat) (ty : FieldType) (fin : Bool) : Prop := ∃ (r : vw_C) (ref : String), vwCl[ci]? = some r ∧ kf < r.2.2 ∧ Cond.fieldLink own idx ref (r.2.1 kf).2.1 (r.2.1 kf).2.2.1 ∈ tb ∧ (ref = (r.2.1 kf).1 ∨ Cond.sameField ref (r.2.1 kf).1 (r.2.1 kf).2.1 (r.2.1 kf).2.2.1 ∈ tb) ∧ parseFieldDescriptor (r.2.1 kf).2.2.1 = some ty ∧ (r.2.1 kf).2.2.2 = fin ∧ (fin = true → (r.2.1 kf).1 = own)
section HRules
variable {w : MC} {k : WC} {d mc ms : Nat} {y : MD} {n1 n2 pc : Nat} {L : List (Option AV)} {st : List AV} {h : AH}
theorem j_get {n : Nm} {ci idx kf : Nat} {fs : List AV} {v : AV} (hc : Cx w k d mc ms y) (hd : decode y.2.1 pc = .ok (.getfield idx, 3)) (hs0 : FS y.1.cls idx ci kf) (hh : h n = some (oO ci fs)) (hv : fs[kf]? = some v) (kk : J w n1 n2 (pc + 3) L (v :: st) h) : J w n1 n2 pc L (vR n :: st) h := by
  obtain ⟨p, l, e, R, s, m, args, below, meth, c, Q, G, B, ρ0, h0⟩ := w
  obtain ⟨hx, hb, hml, hown, hts, hK, hlk, hBs, hnm, hfr, hlo, hce, hsl, hk, hret⟩ := hc
  intro ρ H locs ls hR hA hs hL hl hS
  obtain ⟨r, ref, hr, hkf, hlink, hsame⟩ := hs0
  obtain ⟨⟨r', hr', hlen, cell, q1, q2, q3, q4⟩, hcl, hBn⟩ := hR.1 n _ hh
  cases hr.symm.trans hr'
  obtain ⟨hSl, hfc, kC, hkC, hkind⟩ := hK.1.1 ci _ hr
  obtain ⟨cf, kf', fi, f, hi, hsl'⟩ := hSl kf hkf
  have hfound : s.fieldFound? ref (r.2.1 kf).2.1 (r.2.1 kf).2.2.1 = some (cf, kf', fi, f) := by
    rcases hsame with e | e
    · rw [e]; exact hi
    · exact u_same (hts _ e) _ hi
  refine W.getf hx hb hown (hts _ hlink) hfound (u_facts hfc hkC (u_lays hts (cls_tb hr) hkf) hi).1 q1 (by rw [q3]; exact fun h => by cases h) (v := val ρ v) ?_ rfl rfl hd (kk ρ H locs ls hR hA (List.forall_mem_cons.mpr ⟨hcl v (List.mem_of_getElem? hv), fun v hv => hs v (List.mem_cons_of_mem _ hv)⟩) hL hl hS)
  rw [hsl', q4 kf hkf]
  show some (val ρ (fs.getD kf vN)) = some (val ρ v)
  rw [List.getD_eq_getElem?_getD, hv]
  rfl
theorem j_put {n : Nm} {ci idx kf : Nat} {fs fs' : List AV} {v : AV} {ty : FieldType} (hc : Cx w k d mc ms y) (hd : decode y.2.1 pc = .ok (.putfield idx, 3)) (hs0 : FP y.1.cls idx ci kf ty false) (hh : h n = some (oO ci fs)) (hfit : fitA ty v = true) (hset : fs.set kf v = fs') (kk : J w n1 n2 (pc + 3) L st (up h n (oO ci fs'))) : J w n1 n2 pc L (v :: vR n :: st) h := by
  obtain ⟨p, l, e, R, s, m, args, below, meth, c, Q, G, B, ρ0, h0⟩ := w
  obtain ⟨hx, hb, hml, hown, hts, hK, hlk, hBs, hnm, hfr, hlo, hce, hsl, hk, hret⟩ := hc
  intro ρ H locs ls hR hA hs hL hl hS
  obtain ⟨r, ref, hr, hkf, hlink, hsame, hty, hfin, hdecl⟩ := hs0
  subst hset
  obtain ⟨⟨r', hr', hlen, cell, q1, q2, q3, q4⟩, hcl, hBn⟩ := hR.1 n _ hh
  cases hr.symm.trans hr'
  have hap := cls_apart hts hK hr
  obtain ⟨hSl, hfc, kC, hkC, hkind⟩ := hK.1.1 ci _ hr
  obtain ⟨cf, kf', fi, f, hi, hsl'⟩ := hSl kf hkf
  have hfound : s.fieldFound? ref (r.2.1 kf).2.1 (r.2.1 kf).2.2.1 = some (cf, kf', fi, f) := by
    rcases hsame with e | e
    · rw [e]; exact hi
    · exact u_same (hts _ e) _ hi
  have hst := (u_facts hfc hkC (u_lays hts (cls_tb hr) hkf) hi).1
  obtain ⟨hf1, hf2⟩ := fitA_ok ρ hfit
  have hlay := hts _ (cls_tb hr _ (u_in_lay hkf))
  unfold u_lay at hlay
  rw [if_neg (by rw [hfin]; decide)] at hlay
  have h6 := u_store hfc hkC hkind hlay hi hty hf2 hf1
  refine W.putK hx hb (f := f) ⟨hown, hts _ hlink, ⟨_, _, _, hfound⟩, hst⟩ (by rw [q2]; exact h6) q1 q3 (by rw [hsl']; exact k2_hasslot (q4 kf hkf)) rfl rfl hd fun H' e1 e2 e3 => ?_
  rw [hsl'] at e1 ⊢
  have hvc : Cl h v := hs v List.mem_cons_self
  refine kk ρ H' _ ls (hR.put hh e3 ⟨r, hr, by simpa using hlen, t_OB.to (V := updV (fun k => val ρ (fs.getD k vN)) kf (val ρ v)) ⟨_, e1, q2, q3, t_set q4 hap hkf (val ρ v)⟩ (fun j hj => ?_)⟩ (fun u hu => ?_)) (hA.tr (up_ag hh ρ)) (fun u hu => (hs u (List.mem_cons_of_mem _ (List.mem_cons_of_mem _ hu))).w) (fun u hu => (hL u hu).w) hl (hS.put e2 e3 hBn)
  · unfold updV
    simp only [List.getD_eq_getElem?_getD, List.getElem?_set]
    have hlf : kf < fs.length := by show kf < (((ci, fs) : Nat × List AV)).2.length; rw [hlen]; exact hkf
    by_cases e9 : j = kf
    · subst e9; simp [hlf]
    · simp [e9, Ne.symm e9]
  · have hlf : kf < fs.length := by show kf < (((ci, fs) : Nat × List AV)).2.length; rw [hlen]; exact hkf
    rcases List.mem_or_eq_of_mem_set hu with h9 | h9
    · exact hcl u h9
    · subst h9; exact hvc
theorem j_putF {n : Nm} {ci idx kf : Nat} {fs fs' : List AV} {v : AV} {ty : FieldType} (hc : Cx w k d mc ms y) (hd : decode y.2.1 pc = .ok (.putfield idx, 3)) (hs0 : FP y.1.cls idx ci kf ty true) (hy1 : y.1.name = "<init>") (hh : h n = some (oO ci fs)) (hfit : fitA ty v = true) (hset : fs.set kf v = fs') (kk : J w n1 n2 (pc + 3) L st (up h n (oO ci fs'))) : J w n1 n2 pc L (v :: vR n :: st) h := by
  obtain ⟨p, l, e, R, s, m, args, below, meth, c, Q, G, B, ρ0, h0⟩ := w
  obtain ⟨hx, hb, hml, hown, hts, hK, hlk, hBs, hnm, hfr, hlo, hce, hsl, hk, hret⟩ := hc
  intro ρ H locs ls hR hA hs hL hl hS
  obtain ⟨r, ref, hr, hkf, hlink, hsame, hty, hfin, hdecl⟩ := hs0
  subst hset
  obtain ⟨⟨r', hr', hlen, cell, q1, q2, q3, q4⟩, hcl, hBn⟩ := hR.1 n _ hh
  cases hr.symm.trans hr'
  have hap := cls_apart hts hK hr
  obtain ⟨hSl, hfc, kC, hkC, hkind⟩ := hK.1.1 ci _ hr
  obtain ⟨cf, kf', fi, f, hi, hsl'⟩ := hSl kf hkf
  have hfound : s.fieldFound? ref (r.2.1 kf).2.1 (r.2.1 kf).2.2.1 = some (cf, kf', fi, f) := by
    rcases hsame with e | e
    · rw [e]; exact hi
    · exact u_same (hts _ e) _ hi
  have hst := (u_facts hfc hkC (u_lays hts (cls_tb hr) hkf) hi).1
  obtain ⟨hf1, hf2⟩ := fitA_ok ρ hfit
  have hlay := hts _ (cls_tb hr _ (u_in_lay hkf))
  unfold u_lay at hlay
  rw [if_pos hfin] at hlay
  have hcf : m.cls = cf := by
    obtain ⟨_, _, c', _, _, _, -, -, hf', -, -, -, hown2, -⟩ := Cond.laysFinal_spec hlay
    have e1 : c' = cf := by have := hi.symm.trans hf'; simp at this; exact this.1.symm
    rw [hdecl rfl] at hown2
    rw [← e1]; exact Option.some.inj (hown.symm.trans hown2)
  have h6 := u_fits hfc hkC hkind (Or.inr hlay) hi hty hf2 hf1
  refine W.putFinK hx hb hown (hts _ hlink) hfound hst hcf (hnm.trans hy1) (by rw [q2]; exact h6) q1 q3 (by rw [hsl']; exact k2_hasslot (q4 kf hkf)) rfl rfl hd fun H' e1 e2 e3 => ?_
  rw [hsl'] at e1 ⊢
  have hvc : Cl h v := hs v List.mem_cons_self
  refine kk ρ H' _ ls (hR.put hh e3 ⟨r, hr, by simpa using hlen, t_OB.to (V := updV (fun k => val ρ (fs.getD k vN)) kf (val ρ v)) ⟨_, e1, q2, q3, t_set q4 hap hkf (val ρ v)⟩ (fun j hj => ?_)⟩ (fun u hu => ?_)) (hA.tr (up_ag hh ρ)) (fun u hu => (hs u (List.mem_cons_of_mem _ (List.mem_cons_of_mem _ hu))).w) (fun u hu => (hL u hu).w) hl (hS.put e2 e3 hBn)
  · unfold updV
    simp only [List.getD_eq_getElem?_getD, List.getElem?_set]
    have hlf : kf < fs.length := by show kf < (((ci, fs) : Nat × List AV)).2.length; rw [hlen]; exact hkf
    by_cases e9 : j = kf
    · subst e9; simp [hlf]
    · simp [e9, Ne.symm e9]
  · have hlf : kf < fs.length := by show kf < (((ci, fs) : Nat × List AV)).2.length; rw [hlen]; exact hkf
    rcases List.mem_or_eq_of_mem_set hu with h9 | h9
    · exact hcl u h9
    · subst h9; exact hvc
theorem j_iald {n : Nm} {len : Nat} {f : Int → Int} {i : Int} (hc : Cx w k d mc ms y) (hd : decode y.2.1 pc = .ok (.iaload, 1)) (hh : h n = some (oP 0 len f)) (h0i : 0 ≤ i) (h1i : i < len) (kk : J w n1 n2 (pc + 1) L (vI (f i) :: st) h) : J w n1 n2 pc L (vI i :: vR n :: st) h := by
  obtain ⟨p, l, e, R, s, m, args, below, meth, c, Q, G, B, ρ0, h0⟩ := w
  obtain ⟨hx, hb, hml, hown, hts, hK, hlk, hBs, hnm, hfr, hlo, hce, hsl, hk, hret⟩ := hc
  intro ρ H locs ls hR hA hs hL hl hS
  obtain ⟨⟨hlen, hcell⟩, -, -⟩ := hR.1 n _ hh
  have hlen : len < 536870912 := hlen
  have hin := i32_vpin h0i h1i hlen
  refine W.iald (v := .int (Int32.ofInt (f i))) hx hb hcell ((hK.1.2 0 (G.2.2 0, .int) rfl).1 len _) (fun q => by cases q) (by rw [arrV_size]; exact hin) ?_ rfl rfl hd (kk ρ H locs ls hR hA (List.forall_mem_cons.mpr ⟨trivial, fun v hv => hs v (List.mem_cons_of_mem _ (List.mem_cons_of_mem _ hv))⟩) hL hl hS)
  rw [i32_nat h0i (by omega), arrV_read _ _ (by show i.toNat < len; omega)]
  show some (pv 0 (f (i.toNat : Int))) = _
  rw [show ((i.toNat : Nat) : Int) = i by omega]
  rfl
theorem j_lald {n : Nm} {len : Nat} {f : Int → Int} {i : Int} (hc : Cx w k d mc ms y) (hd : decode y.2.1 pc = .ok (.laload, 1)) (hh : h n = some (oP 1 len f)) (h0i : 0 ≤ i) (h1i : i < len) (kk : J w n1 n2 (pc + 1) L (vL (f i) :: st) h) : J w n1 n2 pc L (vI i :: vR n :: st) h := by
  obtain ⟨p, l, e, R, s, m, args, below, meth, c, Q, G, B, ρ0, h0⟩ := w
  obtain ⟨hx, hb, hml, hown, hts, hK, hlk, hBs, hnm, hfr, hlo, hce, hsl, hk, hret⟩ := hc
  intro ρ H locs ls hR hA hs hL hl hS
  obtain ⟨⟨hlen, hcell⟩, -, -⟩ := hR.1 n _ hh
  have hlen : len < 536870912 := hlen
  have hin := i32_vpin h0i h1i hlen
  refine W.lald (v := .long (Int64.ofInt (f i))) hx hb hcell ((hK.1.2 1 (G.2.2 1, .long) rfl).1 len _) (fun q => by cases q) (by rw [arrV_size]; exact hin) ?_ rfl rfl hd (kk ρ H locs ls hR hA (List.forall_mem_cons.mpr ⟨trivial, fun v hv => hs v (List.mem_cons_of_mem _ (List.mem_cons_of_mem _ hv))⟩) hL hl hS)
  rw [i32_nat h0i (by omega), arrV_read _ _ (by show i.toNat < len; omega)]
  show some (pv 1 (f (i.toNat : Int))) = _
  rw [show ((i.toNat : Nat) : Int) = i by omega]
  rfl
theorem j_zald {n : Nm} {len : Nat} {f : Int → Int} {i : Int} (hc : Cx w k d mc ms y) (hd : decode y.2.1 pc = .ok (.baload, 1)) (hh : h n = some (oP 2 len f)) (h0i : 0 ≤ i) (h1i : i < len) (kk : J w n1 n2 (pc + 1) L (vI (f i) :: st) h) : J w n1 n2 pc L (vI i :: vR n :: st) h := by
  obtain ⟨p, l, e, R, s, m, args, below, meth, c, Q, G, B, ρ0, h0⟩ := w
  obtain ⟨hx, hb, hml, hown, hts, hK, hlk, hBs, hnm, hfr, hlo, hce, hsl, hk, hret⟩ := hc
  intro ρ H locs ls hR hA hs hL hl hS
  obtain ⟨⟨hlen, hcell⟩, -, -⟩ := hR.1 n _ hh
  have hlen : len < 536870912 := hlen
  have hin := i32_vpin h0i h1i hlen
  refine W.zald (v := .int (Int32.ofInt (f i))) hx hb hcell ((hK.1.2 2 (G.2.2 2, .boolean) rfl).1 len _) (fun q => by cases q) (by rw [arrV_size]; exact hin) ?_ rfl rfl hd (kk ρ H locs ls hR hA (List.forall_mem_cons.mpr ⟨trivial, fun v hv => hs v (List.mem_cons_of_mem _ (List.mem_cons_of_mem _ hv))⟩) hL hl hS)
  rw [i32_nat h0i (by omega), arrV_read _ _ (by show i.toNat < len; omega)]
  show some (pv 2 (f (i.toNat : Int))) = _
  rw [show ((i.toNat : Nat) : Int) = i by omega]
  rfl
def aty (kd : Nat) : FieldType := match kd with
  | 3 => .object RX0
  | 4 => .object RX4
  | 5 => .array .int
  | 6 => .object RX2
  | _ => .object RX9
theorem aty_at {G : GG} {kd : Nat} (h1 : 3 ≤ kd) (h2 : kd ≤ 7) : (atys G)[kd]? = some (G.2.2 kd, aty kd) := by
  rcases (by omega : kd = 3 ∨ kd = 4 ∨ kd = 5 ∨ kd = 6 ∨ kd = 7) with rfl | rfl | rfl | rfl | rfl <;> rfl
theorem aty_ref {kd : Nat} : (aty kd).isReference = true := by
  unfold aty
  split <;> rfl
theorem j_aald {n : Nm} {kd len : Nat} {f : Int → Option Nm} {i : Int} (hc : Cx w k d mc ms y) (hd : decode y.2.1 pc = .ok (.aaload, 1)) (hh : h n = some (oA kd len f)) (hk1 : 3 ≤ kd) (hk2 : kd ≤ 7) (h0i : 0 ≤ i) (h1i : i < len) (kk : J w n1 n2 (pc + 1) L (vO (f i) :: st) h) : J w n1 n2 pc L (vI i :: vR n :: st) h := by
  obtain ⟨p, l, e, R, s, m, args, below, meth, c, Q, G, B, ρ0, h0⟩ := w
  obtain ⟨hx, hb, hml, hown, hts, hK, hlk, hBs, hnm, hfr, hlo, hce, hsl, hk, hret⟩ := hc
  intro ρ H locs ls hR hA hs hL hl hS
  obtain ⟨⟨hlen, hcell⟩, hcl, -⟩ := hR.1 n _ hh
  have hlen : len < 536870912 := hlen
  have hin := i32_vpin h0i h1i hlen
  have hcv : Cl h (vO (f i)) := by
    have := hcl i.toNat (by show i.toNat < len; omega)
    rw [show ((i.toNat : Nat) : Int) = i by omega] at this
    exact this
  refine W.aald (v := val ρ (vO (f i))) hx hb hcell ((hK.1.2 kd _ (aty_at hk1 hk2)).1 len _) aty_ref (fun q => by cases q) (by rw [arrV_size]; exact hin) ?_ rfl rfl hd (kk ρ H locs ls hR hA (List.forall_mem_cons.mpr ⟨hcv, fun v hv => hs v (List.mem_cons_of_mem _ (List.mem_cons_of_mem _ hv))⟩) hL hl hS)
  rw [i32_nat h0i (by omega), arrV_read _ _ (by show i.toNat < len; omega)]
  show some (val ρ (vO (f (i.toNat : Int)))) = _
  rw [show ((i.toNat : Nat) : Int) = i by omega]
theorem j_iast {n : Nm} {len : Nat} {f : Int → Int} {i x : Int} (hc : Cx w k d mc ms y) (hd : decode y.2.1 pc = .ok (.iastore, 1)) (hh : h n = some (oP 0 len f)) (h0i : 0 ≤ i) (h1i : i < len) (kk : J w n1 n2 (pc + 1) L st (up h n (oP 0 len (fu f i x)))) : J w n1 n2 pc L (vI x :: vI i :: vR n :: st) h := by
  obtain ⟨p, l, e, R, s, m, args, below, meth, c, Q, G, B, ρ0, h0⟩ := w
  obtain ⟨hx, hb, hml, hown, hts, hK, hlk, hBs, hnm, hfr, hlo, hce, hsl, hk, hret⟩ := hc
  intro ρ H locs ls hR hA hs hL hl hS
  obtain ⟨⟨hlen, hcell⟩, -, hBn⟩ := hR.1 n _ hh
  have hlen : len < 536870912 := hlen
  have hin := i32_vpin h0i h1i hlen
  refine W.iast hx hb hcell ((hK.1.2 0 (G.2.2 0, .int) rfl).1 len _) (fun q => by cases q) (by rw [arrV_size]; exact hin) rfl rfl hd fun H' e1 e2 e3 => ?_
  refine kk ρ H' _ ls (hR.put hh e3 ⟨hlen, ?_⟩ trivial) (hA.tr (up_ag hh ρ)) (fun u hu => (hs u (List.mem_cons_of_mem _ (List.mem_cons_of_mem _ (List.mem_cons_of_mem _ hu)))).w) (fun u hu => (hL u hu).w) hl (hS.put e2 e3 hBn)
  rw [e1, i32_nat h0i (by omega), arrV_store]
  refine congrArg some (arrV_congr fun j hj => ?_)
  show updV _ _ _ j = pv 0 (fu f i x j)
  unfold updV fu
  by_cases e9 : j = i.toNat
  · rw [if_pos e9, if_pos (by omega)]; rfl
  · rw [if_neg e9, if_neg (by omega)]
theorem j_last {n : Nm} {len : Nat} {f : Int → Int} {i x : Int} (hc : Cx w k d mc ms y) (hd : decode y.2.1 pc = .ok (.lastore, 1)) (hh : h n = some (oP 1 len f)) (h0i : 0 ≤ i) (h1i : i < len) (kk : J w n1 n2 (pc + 1) L st (up h n (oP 1 len (fu f i x)))) : J w n1 n2 pc L (vL x :: vI i :: vR n :: st) h := by
  obtain ⟨p, l, e, R, s, m, args, below, meth, c, Q, G, B, ρ0, h0⟩ := w
  obtain ⟨hx, hb, hml, hown, hts, hK, hlk, hBs, hnm, hfr, hlo, hce, hsl, hk, hret⟩ := hc
  intro ρ H locs ls hR hA hs hL hl hS
  obtain ⟨⟨hlen, hcell⟩, -, hBn⟩ := hR.1 n _ hh
  have hlen : len < 536870912 := hlen
  have hin := i32_vpin h0i h1i hlen
  refine W.last hx hb hcell ((hK.1.2 1 (G.2.2 1, .long) rfl).1 len _) (fun q => by cases q) (by rw [arrV_size]; exact hin) rfl rfl hd fun H' e1 e2 e3 => ?_
  refine kk ρ H' _ ls (hR.put hh e3 ⟨hlen, ?_⟩ trivial) (hA.tr (up_ag hh ρ)) (fun u hu => (hs u (List.mem_cons_of_mem _ (List.mem_cons_of_mem _ (List.mem_cons_of_mem _ hu)))).w) (fun u hu => (hL u hu).w) hl (hS.put e2 e3 hBn)
  rw [e1, i32_nat h0i (by omega), arrV_store]
  refine congrArg some (arrV_congr fun j hj => ?_)
  show updV _ _ _ j = pv 1 (fu f i x j)
  unfold updV fu
  by_cases e9 : j = i.toNat
  · rw [if_pos e9, if_pos (by omega)]; rfl
  · rw [if_neg e9, if_neg (by omega)]
theorem j_zast {n : Nm} {len : Nat} {f : Int → Int} {i x : Int} (hc : Cx w k d mc ms y) (hd : decode y.2.1 pc = .ok (.bastore, 1)) (hh : h n = some (oP 2 len f)) (hx01 : x = 0 ∨ x = 1) (h0i : 0 ≤ i) (h1i : i < len) (kk : J w n1 n2 (pc + 1) L st (up h n (oP 2 len (fu f i x)))) : J w n1 n2 pc L (vI x :: vI i :: vR n :: st) h := by
  obtain ⟨p, l, e, R, s, m, args, below, meth, c, Q, G, B, ρ0, h0⟩ := w
  obtain ⟨hx, hb, hml, hown, hts, hK, hlk, hBs, hnm, hfr, hlo, hce, hsl, hk, hret⟩ := hc
  intro ρ H locs ls hR hA hs hL hl hS
  obtain ⟨⟨hlen, hcell⟩, -, hBn⟩ := hR.1 n _ hh
  have hlen : len < 536870912 := hlen
  have hin := i32_vpin h0i h1i hlen
  refine W.zast hx hb hcell ((hK.1.2 2 (G.2.2 2, .boolean) rfl).1 len _) (fun q => by cases q) (by rw [arrV_size]; exact hin) rfl rfl hd fun H' e1 e2 e3 => ?_
  have hnar : narrow .boolean (.int (Int32.ofInt x)) = .int (Int32.ofInt x) := by rcases hx01 with rfl | rfl <;> decide
  rw [hnar] at e1
  refine kk ρ H' _ ls (hR.put hh e3 ⟨hlen, ?_⟩ trivial) (hA.tr (up_ag hh ρ)) (fun u hu => (hs u (List.mem_cons_of_mem _ (List.mem_cons_of_mem _ (List.mem_cons_of_mem _ hu)))).w) (fun u hu => (hL u hu).w) hl (hS.put e2 e3 hBn)
  rw [e1, i32_nat h0i (by omega), arrV_store]
  refine congrArg some (arrV_congr fun j hj => ?_)
  show updV _ _ _ j = pv 2 (fu f i x j)
  unfold updV fu
  by_cases e9 : j = i.toNat
  · rw [if_pos e9, if_pos (by omega)]; rfl
  · rw [if_neg e9, if_neg (by omega)]
theorem j_aast {n n' : Nm} {kd len ci : Nat} {fs : List AV} {r : vw_C} {f : Int → Option Nm} {i : Int} (hc : Cx w k d mc ms y) (hd : decode y.2.1 pc = .ok (.aastore, 1)) (hh : h n = some (oA kd len f)) (hk1 : 3 ≤ kd) (hk2 : kd ≤ 7) (hr : vwCl[ci]? = some r) (hty : aty kd = .object r.1) (hh' : h n' = some (oO ci fs)) (h0i : 0 ≤ i) (h1i : i < len) (kk : J w n1 n2 (pc + 1) L st (up h n (oA kd len (ru f i (some n'))))) : J w n1 n2 pc L (vR n' :: vI i :: vR n :: st) h := by
  obtain ⟨p, l, e, R, s, m, args, below, meth, c, Q, G, B, ρ0, h0⟩ := w
  obtain ⟨hx, hb, hml, hown, hts, hK, hlk, hBs, hnm, hfr, hlo, hce, hsl, hk, hret⟩ := hc
  intro ρ H locs ls hR hA hs hL hl hS
  obtain ⟨⟨hlen, hcell⟩, hcl, hBn⟩ := hR.1 n _ hh
  obtain ⟨⟨r', hr', hlen', cell', q1, q2, q3, q4⟩, -, -⟩ := hR.1 n' _ hh'
  cases hr.symm.trans hr'
  have hlen : len < 536870912 := hlen
  have hin := i32_vpin h0i h1i hlen
  have hat := hK.1.2 kd _ (aty_at hk1 hk2)
  rw [hty] at hat
  have hcls := (hK.1.1 ci r hr).2
  obtain ⟨kA, comp, k1, k2, k3, -⟩ := hat.2
  have hcomp : comp = G.1 ci := Option.some.inj (k3.symm.trans hcls.1)
  subst hcomp
  obtain ⟨kC, hkC, -⟩ := hcls.2
  refine W.aast hx hb hcell (fun q h => by cases h) (fun h => by cases h) k1 k2 rfl hkC ⟨fun q => hin (Or.inl q), by rw [arrV_size]; exact Nat.not_le.mp fun q => hin (Or.inr q)⟩ q1 (fun q h => by rw [q3] at h; cases h) (by rw [q2]; exact hkC) (by rw [q2]; exact va_assign hcls) rfl rfl hd fun H' e1 e2 e3 => ?_
  refine kk ρ H' _ ls (hR.put hh e3 ⟨hlen, ?_⟩ (fun j hj => ?_)) (hA.tr (up_ag hh ρ)) (fun u hu => (hs u (List.mem_cons_of_mem _ (List.mem_cons_of_mem _ (List.mem_cons_of_mem _ hu)))).w) (fun u hu => (hL u hu).w) hl (hS.put e2 e3 hBn)
  · rw [e1, i32_nat h0i (by omega), arrV_store]
    refine congrArg some (arrV_congr fun j hj => ?_)
    show updV _ _ _ j = val ρ (vO (ru f i (some n') j))
    unfold updV ru
    by_cases e9 : j = i.toNat
    · rw [if_pos e9, if_pos (by omega)]; rfl
    · rw [if_neg e9, if_neg (by omega)]
  · show Cl h (vO (ru f i (some n') j))
    unfold ru
    split
    · show h n' ≠ none
      rw [hh']; simp
    · exact hcl j hj
theorem j_alenP {n : Nm} {kd len : Nat} {f : Int → Int} (hc : Cx w k d mc ms y) (hd : decode y.2.1 pc = .ok (.arraylength, 1)) (hh : h n = some (oP kd len f)) (hk2 : kd ≤ 2) (kk : J w n1 n2 (pc + 1) L (vI len :: st) h) : J w n1 n2 pc L (vR n :: st) h := by
  obtain ⟨p, l, e, R, s, m, args, below, meth, c, Q, G, B, ρ0, h0⟩ := w
  obtain ⟨hx, hb, hml, hown, hts, hK, hlk, hBs, hnm, hfr, hlo, hce, hsl, hk, hret⟩ := hc
  intro ρ H locs ls hR hA hs hL hl hS
  obtain ⟨⟨hlen, hcell⟩, -, -⟩ := hR.1 n _ hh
  have ht : ∃ ty, (atys G)[kd]? = some (G.2.2 kd, ty) := by
    rcases (by omega : kd = 0 ∨ kd = 1 ∨ kd = 2) with rfl | rfl | rfl <;> exact ⟨_, rfl⟩
  obtain ⟨ty, ht⟩ := ht
  exact W.alen (n := Int32.ofInt len) hx hb hcell ((hK.1.2 kd _ ht).1 len _) (by rw [arrV_size]; rfl) rfl rfl hd (kk ρ H locs ls hR hA (List.forall_mem_cons.mpr ⟨trivial, fun v hv => hs v (List.mem_cons_of_mem _ hv)⟩) hL hl hS)
theorem j_alenA {n : Nm} {kd len : Nat} {f : Int → Option Nm} (hc : Cx w k d mc ms y) (hd : decode y.2.1 pc = .ok (.arraylength, 1)) (hh : h n = some (oA kd len f)) (hk1 : 3 ≤ kd) (hk2 : kd ≤ 7) (kk : J w n1 n2 (pc + 1) L (vI len :: st) h) : J w n1 n2 pc L (vR n :: st) h := by
  obtain ⟨p, l, e, R, s, m, args, below, meth, c, Q, G, B, ρ0, h0⟩ := w
  obtain ⟨hx, hb, hml, hown, hts, hK, hlk, hBs, hnm, hfr, hlo, hce, hsl, hk, hret⟩ := hc
  intro ρ H locs ls hR hA hs hL hl hS
  obtain ⟨⟨hlen, hcell⟩, -, -⟩ := hR.1 n _ hh
  exact W.alen (n := Int32.ofInt len) hx hb hcell ((hK.1.2 kd _ (aty_at hk1 hk2)).1 len _) (by rw [arrV_size]; rfl) rfl rfl hd (kk ρ H locs ls hR hA (List.forall_mem_cons.mpr ⟨trivial, fun v hv => hs v (List.mem_cons_of_mem _ hv)⟩) hL hl hS)
def dfl : FieldType → AV
  | .long => vL 0
  | .object _ => vN
  | .array _ => vN
  | _ => vI 0
def okT : FieldType → Bool
  | .int => true
  | .long => true
  | .object _ => true
  | .array _ => true
  | .boolean => true
  | _ => false
theorem dfl_ok {ty : FieldType} (ρ : Nm → Nat) (h : okT ty = true) : defaultValue ty = val ρ (dfl ty) := by
  cases ty <;> first | rfl | cases h
def NW (own : String) (idx ci : Nat) (fs : List AV) : Prop := ∃ (r : vw_C) (ty : Nat → FieldType), vwCl[ci]? = some r ∧ fs.length = r.2.2 ∧ Cond.classLink own idx r.1 ∈ tb ∧ Cond.instantiable r.1 r.2.2 ∈ tb ∧ Cond.initialized r.1 ∈ tb ∧ (∀ k, k < r.2.2 → parseFieldDescriptor (r.2.1 k).2.2.1 = some (ty k)) ∧ ∀ k, k < r.2.2 → okT (ty k) = true ∧ fs[k]? = some (dfl (ty k))
theorem j_new {nm : Nm} {ci idx : Nat} {fs : List AV} (hc : Cx w k d mc ms y) (hd : decode y.2.1 pc = .ok (.new idx, 3)) (hs0 : NW y.1.cls idx ci fs) (hf : h nm = none) (h1 : n1 + 1 ≤ mc) (h2 : n2 + fs.length ≤ ms) (kk : J w (n1 + 1) (n2 + fs.length) (pc + 3) L (vR nm :: st) (up h nm (oO ci fs))) : J w n1 n2 pc L st h := by
  obtain ⟨p, l, e, R, s, m, args, below, meth, c, Q, G, B, ρ0, h0⟩ := w
  obtain ⟨hx, hb, hml, hown, hts, hK, hlk, hBs, hnm, hfr, hlo, hce, hsl, hk, hret⟩ := hc
  intro ρ H locs ls hR hA hs hL hl hS
  obtain ⟨r, ty, hr, hlen, hcl, hinst, hini, hty, hdf⟩ := hs0
  have hKn := hK.1.1 ci _ hr
  rw [hlen] at kk h2
  have hcf : ∀ v ∈ fs, Cl (up h nm (oO ci fs)) v := fun v hv => by
    obtain ⟨j, hj⟩ := List.getElem?_of_mem hv
    have hjl : j < r.2.2 := by rw [← hlen]; exact (List.getElem?_eq_some_iff.mp hj).1
    have := (hdf j hjl).2
    rw [hj] at this
    cases this
    cases ty j <;> trivial
  refine W.newcK hx hb hown (hts _ hcl) (hts _ hinst) (hts _ hini) rfl hd (Nat.le_trans h1 hce) (Nat.le_trans h2 hsl) hKn.2.1 rfl fun H1 kC hkC e1 z1 o1 => ?_
  have ag := up_ag_new (o := oO ci fs) hf ρ H.size
  have hB : B ≤ H.size := Nat.le_trans hBs hS.1
  have hob := u_born ty hts (cls_tb hr) hKn hkC e1 hty
  have hR' : Rep G B (rnew ρ nm H.size) (up h nm (oO ci fs)) H1 := hR.new hf o1 hB ⟨r, hr, hlen, hob.to fun j hj => by
    rw [List.getD_eq_getElem?_getD, (hdf j hj).2]
    exact dfl_ok _ (hdf j hj).1⟩ hcf
  have hmap : st.map (val (rnew ρ nm H.size)) = st.map (val ρ) := ag_map ag hs
  have K := kk (rnew ρ nm H.size) H1 locs ls hR' (hA.tr ag) (List.forall_mem_cons.mpr ⟨by show up h nm _ nm ≠ none; rw [up_same]; simp, fun v hv => (hs v hv).w⟩) (fun v hv => (hL v hv).w) ⟨hl.1, hl.2.1, fun i v hi => by rw [(Cl.ag ag (hL v (List.mem_of_getElem? hi))).2]; exact hl.2.2 i v hi⟩ ⟨Nat.le_trans hS.1 (by omega), fun x g1 g2 => (o1 x (Nat.lt_of_lt_of_le g1 hS.1)).trans (hS.2.1 x g1 g2), hS.2.2⟩
  rw [List.map_cons, hmap] at K
  simp only [val, rnew_same] at K
  exact K
theorem j_newI {nm : Nm} {n : Int} (hc : Cx w k d mc ms y) (hd : decode y.2.1 pc = .ok (.newarray .int, 2)) (hw : Cond.arrayClass .int ∈ tb) (hf : h nm = none) (hn0 : 0 ≤ n) (hn1 : n < 60000000) (h1 : n1 + 1 ≤ mc) (h2 : n2 + n.toNat ≤ ms) (kk : J w (n1 + 1) (n2 + n.toNat) (pc + 2) L (vR nm :: st) (up h nm (oP 0 n.toNat (fun _ => 0)))) : J w n1 n2 pc L (vI n :: st) h := by
  obtain ⟨p, l, e, R, s, m, args, below, meth, c, Q, G, B, ρ0, h0⟩ := w
  obtain ⟨hx, hb, hml, hown, hts, hK, hlk, hBs, hnm, hfr, hlo, hce, hsl, hk, hret⟩ := hc
  intro ρ H locs ls hR hA hs hL hl hS
  refine va_newaK (atype := .int) hx hb (hts _ hw) rfl hd rfl (N := n.toNat) ?_ (i32_nat hn0 (by omega)) (by show n.toNat * _ ≤ _; simp only [newarray.typeOf, componentBytes]; omega) (Nat.le_trans h1 hce) (Nat.le_trans h2 hsl) rfl fun H1 cA e1 z1 o1 hAr hNm => ?_
  · intro q; rw [i32_zero, i32_lt ⟨by omega, by omega⟩ ⟨by omega, by omega⟩] at q; omega
  have ag := up_ag_new (o := oP 0 n.toNat (fun _ => 0)) hf ρ H.size
  have hB : B ≤ H.size := Nat.le_trans hBs hS.1
  have hcA : cA = G.2.2 0 := Option.some.inj (hNm.symm.trans (hK.1.2 0 (G.2.2 0, .int) rfl).2)
  subst hcA
  have hR' : Rep G B (rnew ρ nm H.size) (up h nm (oP 0 n.toNat (fun _ => 0))) H1 := hR.new hf o1 hB ⟨by show n.toNat < _; omega, e1⟩ trivial
  have hmap : st.map (val (rnew ρ nm H.size)) = st.map (val ρ) := ag_map ag (fun v hv => hs v (List.mem_cons_of_mem _ hv))
  have K := kk (rnew ρ nm H.size) H1 locs ls hR' (hA.tr ag) (List.forall_mem_cons.mpr ⟨by show up h nm _ nm ≠ none; rw [up_same]; simp, fun v hv => (hs v (List.mem_cons_of_mem _ hv)).w⟩) (fun v hv => (hL v hv).w) ⟨hl.1, hl.2.1, fun i v hi => by rw [(Cl.ag ag (hL v (List.mem_of_getElem? hi))).2]; exact hl.2.2 i v hi⟩ ⟨Nat.le_trans hS.1 (by omega), fun x g1 g2 => (o1 x (Nat.lt_of_lt_of_le g1 hS.1)).trans (hS.2.1 x g1 g2), hS.2.2⟩
  rw [List.map_cons, hmap] at K
  simp only [val, rnew_same] at K
  exact K
theorem j_newL {nm : Nm} {n : Int} (hc : Cx w k d mc ms y) (hd : decode y.2.1 pc = .ok (.newarray .long, 2)) (hw : Cond.arrayClass .long ∈ tb) (hf : h nm = none) (hn0 : 0 ≤ n) (hn1 : n < 60000000) (h1 : n1 + 1 ≤ mc) (h2 : n2 + n.toNat ≤ ms) (kk : J w (n1 + 1) (n2 + n.toNat) (pc + 2) L (vR nm :: st) (up h nm (oP 1 n.toNat (fun _ => 0)))) : J w n1 n2 pc L (vI n :: st) h := by
  obtain ⟨p, l, e, R, s, m, args, below, meth, c, Q, G, B, ρ0, h0⟩ := w
  obtain ⟨hx, hb, hml, hown, hts, hK, hlk, hBs, hnm, hfr, hlo, hce, hsl, hk, hret⟩ := hc
  intro ρ H locs ls hR hA hs hL hl hS
  refine va_newaK (atype := .long) hx hb (hts _ hw) rfl hd rfl (N := n.toNat) ?_ (i32_nat hn0 (by omega)) (by show n.toNat * _ ≤ _; simp only [newarray.typeOf, componentBytes]; omega) (Nat.le_trans h1 hce) (Nat.le_trans h2 hsl) rfl fun H1 cA e1 z1 o1 hAr hNm => ?_
  · intro q; rw [i32_zero, i32_lt ⟨by omega, by omega⟩ ⟨by omega, by omega⟩] at q; omega
  have ag := up_ag_new (o := oP 1 n.toNat (fun _ => 0)) hf ρ H.size
  have hB : B ≤ H.size := Nat.le_trans hBs hS.1
  have hcA : cA = G.2.2 1 := Option.some.inj (hNm.symm.trans (hK.1.2 1 (G.2.2 1, .long) rfl).2)
  subst hcA
  have hR' : Rep G B (rnew ρ nm H.size) (up h nm (oP 1 n.toNat (fun _ => 0))) H1 := hR.new hf o1 hB ⟨by show n.toNat < _; omega, e1⟩ trivial
  have hmap : st.map (val (rnew ρ nm H.size)) = st.map (val ρ) := ag_map ag (fun v hv => hs v (List.mem_cons_of_mem _ hv))
  have K := kk (rnew ρ nm H.size) H1 locs ls hR' (hA.tr ag) (List.forall_mem_cons.mpr ⟨by show up h nm _ nm ≠ none; rw [up_same]; simp, fun v hv => (hs v (List.mem_cons_of_mem _ hv)).w⟩) (fun v hv => (hL v hv).w) ⟨hl.1, hl.2.1, fun i v hi => by rw [(Cl.ag ag (hL v (List.mem_of_getElem? hi))).2]; exact hl.2.2 i v hi⟩ ⟨Nat.le_trans hS.1 (by omega), fun x g1 g2 => (o1 x (Nat.lt_of_lt_of_le g1 hS.1)).trans (hS.2.1 x g1 g2), hS.2.2⟩
  rw [List.map_cons, hmap] at K
  simp only [val, rnew_same] at K
  exact K
theorem j_newZ {nm : Nm} {n : Int} (hc : Cx w k d mc ms y) (hd : decode y.2.1 pc = .ok (.newarray .boolean, 2)) (hw : Cond.arrayClass .boolean ∈ tb) (hf : h nm = none) (hn0 : 0 ≤ n) (hn1 : n < 60000000) (h1 : n1 + 1 ≤ mc) (h2 : n2 + n.toNat ≤ ms) (kk : J w (n1 + 1) (n2 + n.toNat) (pc + 2) L (vR nm :: st) (up h nm (oP 2 n.toNat (fun _ => 0)))) : J w n1 n2 pc L (vI n :: st) h := by
  obtain ⟨p, l, e, R, s, m, args, below, meth, c, Q, G, B, ρ0, h0⟩ := w
  obtain ⟨hx, hb, hml, hown, hts, hK, hlk, hBs, hnm, hfr, hlo, hce, hsl, hk, hret⟩ := hc
  intro ρ H locs ls hR hA hs hL hl hS
  refine va_newaK (atype := .boolean) hx hb (hts _ hw) rfl hd rfl (N := n.toNat) ?_ (i32_nat hn0 (by omega)) (by show n.toNat * _ ≤ _; simp only [newarray.typeOf, componentBytes]; omega) (Nat.le_trans h1 hce) (Nat.le_trans h2 hsl) rfl fun H1 cA e1 z1 o1 hAr hNm => ?_
  · intro q; rw [i32_zero, i32_lt ⟨by omega, by omega⟩ ⟨by omega, by omega⟩] at q; omega
  have ag := up_ag_new (o := oP 2 n.toNat (fun _ => 0)) hf ρ H.size
  have hB : B ≤ H.size := Nat.le_trans hBs hS.1
  have hcA : cA = G.2.2 2 := Option.some.inj (hNm.symm.trans (hK.1.2 2 (G.2.2 2, .boolean) rfl).2)
  subst hcA
  have hR' : Rep G B (rnew ρ nm H.size) (up h nm (oP 2 n.toNat (fun _ => 0))) H1 := hR.new hf o1 hB ⟨by show n.toNat < _; omega, e1⟩ trivial
  have hmap : st.map (val (rnew ρ nm H.size)) = st.map (val ρ) := ag_map ag (fun v hv => hs v (List.mem_cons_of_mem _ hv))
  have K := kk (rnew ρ nm H.size) H1 locs ls hR' (hA.tr ag) (List.forall_mem_cons.mpr ⟨by show up h nm _ nm ≠ none; rw [up_same]; simp, fun v hv => (hs v (List.mem_cons_of_mem _ hv)).w⟩) (fun v hv => (hL v hv).w) ⟨hl.1, hl.2.1, fun i v hi => by rw [(Cl.ag ag (hL v (List.mem_of_getElem? hi))).2]; exact hl.2.2 i v hi⟩ ⟨Nat.le_trans hS.1 (by omega), fun x g1 g2 => (o1 x (Nat.lt_of_lt_of_le g1 hS.1)).trans (hS.2.1 x g1 g2), hS.2.2⟩
  rw [List.map_cons, hmap] at K
  simp only [val, rnew_same] at K
  exact K
end HRules
