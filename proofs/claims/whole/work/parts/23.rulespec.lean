/-! ===== a rule: its code run by a stack ===== -/
def SkR (g : Int → Int) : List Int → Prop
  | [] => True
  | v :: t => g (t.length : Int) = v ∧ SkR g t
theorem SkR_fu {g : Int → Int} {n : Int} {x : Int} : ∀ {t : List Int}, (t.length : Int) ≤ n → SkR g t → SkR (fu g n x) t
  | [], _, _ => trivial
  | v :: t, hn, h => by
    have e : ((v :: t).length : Int) = t.length + 1 := rfl
    refine ⟨?_, SkR_fu (by omega) h.2⟩
    rw [fu_ne (by omega)]
    exact h.1
def psh (t : List Int) (v : Int) : List Int := if t.length < 64 then v :: t else t
def pll : List Int → Int × List Int
  | [] => (0, [])
  | v :: t => (v, t)
def RuleAt (h : AH) (r : Int) (cl : Nat) (cf : Int → Int) (t : List Int) (lt : Int → Int) : Prop :=
  h (60, r) = some (oO 3 [vR (61, r), vR (62, r), vR (63, r), vI t.length]) ∧ h (61, r) = some (oI cl cf) ∧ (∃ g, h (62, r) = some (oI 64 g) ∧ SkR g t) ∧ h (63, r) = some (oI 5 lt)
abbrev isRule (r : Int) : Nm → Prop := fun z => z = (60, r) ∨ z = (62, r) ∨ z = (63, r)
theorem RuleAt.mv {h h' : AH} {n : Nm} {o : AO} {r : Int} {cl : Nat} {cf : Int → Int} {t : List Int} {lt : Int → Int} (e : up h n o = h') (hn : n.1 < 60 ∨ 63 < n.1) (hU : RuleAt h r cl cf t lt) : RuleAt h' r cl cf t lt := by
  subst e
  have q : ∀ j : Nat, 60 ≤ j → j ≤ 63 → up h n o (j, r) = h (j, r) := fun j a b => up_ne fun e => by
    rw [← e] at hn
    simp at hn
    omega
  obtain ⟨g60, g61, g62, g63⟩ := hU
  refine ⟨(q 60 (by omega) (by omega)).trans g60, (q 61 (by omega) (by omega)).trans g61, ?_, (q 63 (by omega) (by omega)).trans g63⟩
  rw [q 62 (by omega) (by omega)]; exact g62
theorem RuleAt.fr {h h' : AH} {r : Int} {cl : Nat} {cf : Int → Int} {t : List Int} {lt : Int → Int} (q : ∀ j : Nat, 60 ≤ j → j ≤ 63 → h' (j, r) = h (j, r)) (hU : RuleAt h r cl cf t lt) : RuleAt h' r cl cf t lt := by
  obtain ⟨g60, g61, g62, g63⟩ := hU
  refine ⟨(q 60 (by omega) (by omega)).trans g60, (q 61 (by omega) (by omega)).trans g61, ?_, (q 63 (by omega) (by omega)).trans g63⟩
  rw [q 62 (by omega) (by omega)]; exact g62
def clS (x : Int) : Int := max (-1000000) (min 1000000 x)
def rkS (what x z : Int) : Int := clS (if what = -6 then x + z else if what = -7 then x - z else if what = -8 then x * z else if z = 0 then 0 else x.tdiv z)
def trS (what x z : Int) : Int := if what = -10 then (if x = z then 1 else 0) else if what = -11 then (if x < z then 1 else 0) else if what = -12 then (if x > z then 1 else 0) else if what = -13 then (if x ≠ 0 ∧ z ≠ 0 then 1 else 0) else (if x ≠ 0 ∨ z ≠ 0 then 1 else 0)
def tkR (lt : Int → Int) (what : Int) (t : List Int) : List Int :=
  if what ≥ 0 then psh t what else if what ≥ -5 then psh t (lt (-1 - what)) else if what = -15 then psh (pll t).2 (if (pll t).1 = 0 then 1 else 0)
  else psh (pll (pll t).2).2 (if what ≥ -9 then rkS what (pll (pll t).2).1 (pll t).1 else trS what (pll (pll t).2).1 (pll t).1)
def rnC (cf lt : Int → Int) : Nat → Int → List Int → Int → Int
  | 0, _, _, _ => 0
  | m + 1, i, t, p => if p = 0 then (if cf i = -17 then (pll t).1 else if cf i = -16 then rnC cf lt m (i + 1) (pll t).2 (if (pll t).1 = 0 then 1 else 0) else rnC cf lt m (i + 1) (tkR lt (cf i) t) 0) else rnC cf lt m (i + 1) t (if cf i = -17 then 0 else 1)
def l5 (a s n p r : Int) : Int → Int := fu (fu (fu (fu (fu (fun _ => 0) 0 a) 1 s) 2 n) 3 p) 4 r
def woS (cf : Int → Int) (cl : Nat) (a s n p r : Int) : Int := rnC cf (l5 a s n p r) cl 0 [] 0
theorem imul_b {x y : Int} (hx : inI x) (hy : inI y) : -4611686018427387904 ≤ x * y ∧ x * y ≤ 4611686018427387904 := by
  have h1 : x.natAbs ≤ 2147483648 := by omega
  have h2 : y.natAbs ≤ 2147483648 := by omega
  have h3 := Nat.mul_le_mul h1 h2
  have h4 : (x * y).natAbs = x.natAbs * y.natAbs := Int.natAbs_mul x y
  omega
theorem tdiv_b {x y : Int} (hx : inI x) : -2147483648 ≤ x.tdiv y ∧ x.tdiv y ≤ 2147483648 := by
  have h1 : (x.tdiv y).natAbs = x.natAbs / y.natAbs := Int.natAbs_tdiv x y
  have h2 : x.natAbs / y.natAbs ≤ x.natAbs := Nat.div_le_self _ _
  omega
abbrev allI (t : List Int) : Prop := ∀ v ∈ t, inI v
theorem psh_ok {t : List Int} {v : Int} (ht : allI t) (hv : inI v) : allI (psh t v) := by
  unfold psh
  split
  · exact List.forall_mem_cons.mpr ⟨hv, ht⟩
  · exact ht
theorem psh_len {t : List Int} {v : Int} (ht : t.length ≤ 64) : (psh t v).length ≤ 64 := by
  unfold psh
  split
  · simp; omega
  · exact ht
theorem pll_ok {t : List Int} (ht : allI t) : inI (pll t).1 ∧ allI (pll t).2 := by
  cases t with
  | nil => exact ⟨⟨by simp [pll], by simp [pll]⟩, fun v hv => by simp [pll] at hv⟩
  | cons v t => exact ⟨ht v List.mem_cons_self, fun u hu => ht u (List.mem_cons_of_mem _ hu)⟩
theorem pll_len {t : List Int} (ht : t.length ≤ 64) : (pll t).2.length ≤ 64 := by
  cases t with
  | nil => simp [pll]
  | cons v t => simp [pll] at ht ⊢; omega
theorem clS_b (x : Int) : inI (clS x) := by unfold clS; exact ⟨by omega, by omega⟩
theorem tkR_ok {lt : Int → Int} {what : Int} {t : List Int} (ht : allI t) (hl : t.length ≤ 64) (hlt : ∀ j, 0 ≤ j → j ≤ 4 → inI (lt j)) (hw : inI what) : allI (tkR lt what t) ∧ (tkR lt what t).length ≤ 64 := by
  have h1 := pll_ok ht
  have h2 := pll_ok h1.2
  have h3 := pll_len hl
  have h4 := pll_len h3
  unfold tkR
  split
  · exact ⟨psh_ok ht hw, psh_len hl⟩
  · split
    · exact ⟨psh_ok ht (hlt _ (by omega) (by omega)), psh_len hl⟩
    · split
      · exact ⟨psh_ok h1.2 (by split <;> exact ⟨by omega, by omega⟩), psh_len h3⟩
      · refine ⟨psh_ok h2.2 ?_, psh_len h4⟩
        split
        · exact clS_b _
        · unfold trS
          repeat' split
          all_goals exact ⟨by omega, by omega⟩
theorem trS_01 (q x z : Int) : trS q x z = 0 ∨ trS q x z = 1 := by
  unfold trS
  repeat' split
  all_goals first | exact Or.inl rfl | exact Or.inr rfl
theorem tkR_congr {lt lt' : Int → Int} (h : ∀ j, 0 ≤ j → j ≤ 4 → lt j = lt' j) (q : Int) (t : List Int) : tkR lt q t = tkR lt' q t := by
  unfold tkR
  split
  · rfl
  · split
    · rw [h _ (by omega) (by omega)]
    · rfl
theorem rnC_congr {cf lt lt' : Int → Int} (h : ∀ j, 0 ≤ j → j ≤ 4 → lt j = lt' j) : ∀ (m : Nat) (i : Int) (t : List Int) (p : Int), rnC cf lt m i t p = rnC cf lt' m i t p
  | 0, _, _, _ => rfl
  | m + 1, i, t, p => by
    simp only [rnC]
    rw [tkR_congr h, rnC_congr h m, rnC_congr h m, rnC_congr h m]
theorem l5_b {a s n p r : Int} (ha : inI a) (hs : inI s) (hn : inI n) (hp : inI p) (hr : inI r) (j : Int) : inI (l5 a s n p r j) := by
  unfold l5 fu
  repeat' split
  all_goals first | assumption | (show inI 0; exact ⟨by decide, by decide⟩)
theorem Ends.mono {w : MC} {mc ms : Nat} {Post Post' : Option AV → AH → Prop} (he : Ends w mc ms Post) (hp : ∀ r h, Post' r h → Post r h) : Ends w mc ms Post' := by
  obtain ⟨p, l, e, R, s, m, args, below, meth, c, Q, G, B, ρ0, h0⟩ := w
  intro t ht
  refine he t ?_
  obtain ⟨o, t1, t2, ⟨⟨ρ', r, h', a1, a2, a3, a4, a5⟩, t4⟩, t5⟩ := ht
  exact ⟨o, t1, t2, ⟨⟨ρ', r, h', a1, a2, hp r h' a3, a4, a5⟩, t4⟩, t5⟩
