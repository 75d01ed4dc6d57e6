/-! ===== plans and rules in the heap ===== -/
theorem rnC_ok {cf lt : Int → Int} (hlt : ∀ j, 0 ≤ j → j ≤ 4 → inI (lt j)) : ∀ (m : Nat) (i : Int) (t : List Int) (p : Int), allI t → t.length ≤ 64 → (∀ j : Int, i ≤ j → j < i + m → inI (cf j)) → inI (rnC cf lt m i t p)
  | 0, _, _, _, _, _, _ => ⟨by simp [rnC], by simp [rnC]⟩
  | m + 1, i, t, p, ht, hl, hcf => by
    have h1 := pll_ok ht
    have h2 := pll_len hl
    have h3 := tkR_ok ht hl hlt (hcf i (by omega) (by omega))
    simp only [rnC]
    split
    · split
      · exact h1.1
      · split
        · exact rnC_ok hlt m _ _ _ h1.2 h2 (fun j a b => hcf j (by omega) (by omega))
        · exact rnC_ok hlt m _ _ _ h3.1 h3.2 (fun j a b => hcf j (by omega) (by omega))
    · exact rnC_ok hlt m _ _ _ ht hl (fun j a b => hcf j (by omega) (by omega))
theorem woS_b {cf : Int → Int} {cl : Nat} {a s n p q : Int} (hcf : ∀ j : Int, 0 ≤ j → j < cl → inI (cf j)) (ha : inI a) (hs : inI s) (hn : inI n) (hp : inI p) (hq : inI q) : inI (woS cf cl a s n p q) :=
  rnC_ok (fun j _ _ => l5_b ha hs hn hp hq j) cl 0 [] 0 (fun v hv => by cases hv) (by simp) (fun j z0 z1 => hcf j z0 (by omega))
/-- the land's own rule stands in the heap -/
def RuOK (h : AH) (E : LaY) (ru : RU) : Prop := (yOwn E = none ∧ ru = none) ∨ ∃ (rr : Int) (q : Nat × (Int → Int)), yOwn E = some (60, rr) ∧ ru = some q ∧ q.1 < 536870912 ∧ (∀ j : Int, 0 ≤ j → j < q.1 → inI (q.2 j)) ∧ ∃ (t : List Int) (lt : Int → Int), RuleAt h rr q.1 q.2 t lt ∧ t.length ≤ 64
def isOwn (E : LaY) : Nm → Prop := fun z => ∃ rr : Int, yOwn E = some (60, rr) ∧ isRule rr z
theorem isOwn_lo {E : LaY} {z : Nm} (h : isOwn E z) : 60 ≤ z.1 ∧ z.1 ≤ 63 := by
  obtain ⟨rr, -, h⟩ := h
  rcases h with rfl | rfl | rfl <;> simp
theorem RuOK.mv {h h' : AH} {n : Nm} {o : AO} {E : LaY} {ru : RU} (e : up h n o = h') (hn : n.1 < 60 ∨ 63 < n.1) (hr : RuOK h E ru) : RuOK h' E ru := by
  rcases hr with hr | ⟨rr, q, h1, h2, h3, h4, t, lt, h5, h6⟩
  · exact Or.inl hr
  · exact Or.inr ⟨rr, q, h1, h2, h3, h4, t, lt, h5.mv e hn, h6⟩
def blS (D : LaS) (sr : Int) : Nat := if sr = 2 ∨ sr = 3 then (lSe D).toNat * 492 else 0
def gnS (l sr : Int) : Nm := if sr = 3 then (38, l) else (37, l)
def PlanAt (h : AH) (i l : Int) (D : LaS) (E : LaY) (ru : RU) (sr cs : Int) (wf : Option Nm) (kf bf lf wl : Int → Int) : Prop :=
  h (50, i) = some (oO 2 (pF i l sr cs wf (gnS l sr))) ∧ h (51, i) = some (oI ((lSe D).toNat * 492) kf) ∧ h (52, i) = some (oL (blS D sr) bf) ∧ h (54, i) = some (oI 4 lf) ∧ h (55, i) = some (oI 4 wl) ∧ (∃ af, h (56, i) = some (oL 21 af)) ∧ PlV D E ru cs sr kf bf lf
theorem PlV.zero {D : LaS} {E E' : LaY} {ru ru' : RU} {cs cs' sr : Int} {kf bf lf lf' : Int → Int} (hD : LOK D) (h : PlV D E ru cs sr kf bf lf) (hz : ∀ t : Int, 0 ≤ t → t < 4 → lf' t = 0) : PlV D E' ru' cs' sr kf bf lf' := by
  have := hD.2.1
  refine ⟨h.1, fun t z0 z1 => ?_⟩
  rw [hz t z0 (by omega)]
  exact ⟨by omega, by omega, fun n n1 n2 => by omega⟩
