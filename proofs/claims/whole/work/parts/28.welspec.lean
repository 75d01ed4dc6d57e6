/-! ===== welfare ===== -/
def weV (D : LaS) (cs sr k : Int) (vf : Int → Int) (n s a : Int) : Int := beN D (n - 1).toNat s * (goS D (eaS D sr (a - k)) - cs * k) + (if n > 1 then suF (stG D vf (n - 1) (nxS D s) (leS D k)) (lHv D (nxS D s)).toNat else 0)
def weN (D : LaS) (E : LaY) (ru : RU) (cs sr : Int) : Nat → Int → Int → Int
  | 0, s, a => weV D cs sr (kpS D E ru cs sr 1 s a) (fun _ => 0) 1 s a
  | m + 1, s, a => weV D cs sr (kpS D E ru cs sr (m + 2) s a) (fun x => weN D E ru cs sr m (nxS D s) (x - ceS (m + 1) (nxS D s))) (m + 2) s a
theorem weV_congr {D : LaS} (hD : LOK D) {cs sr k : Int} {vf vf' : Int → Int} {n s a : Int} (hs : 0 ≤ s) (hk0 : 0 ≤ k) (hk : k ≤ 20) (h : n > 1 → ∀ b : Int, 0 ≤ b → b ≤ 40 → vf (ceS (n - 1) (nxS D s) + b) = vf' (ceS (n - 1) (nxS D s) + b)) : weV D cs sr k vf n s a = weV D cs sr k vf' n s a := by
  have zn := nxS_b hD hs
  have zl := leS_b hD hk0
  obtain ⟨hv1, hv2, -, -, -, hv3⟩ := hD.2.2.2.2.2.2.2.2.2.2.2.2 (nxS D s) zn.1 zn.2
  unfold weV
  congr 1
  split
  · rename_i q
    refine suF_congr _ fun j hj => ?_
    obtain ⟨zk1, zk2, -, -⟩ := hv3 j (by omega) (by omega)
    rw [show 4 * nxS D s + (j : Int) = nxS D s * 4 + j by omega] at zk1 zk2
    unfold stG
    rw [show ceS (n - 1) (nxS D s) + leS D k + lSk D (nxS D s * 4 + j) = ceS (n - 1) (nxS D s) + (leS D k + lSk D (nxS D s * 4 + j)) by omega, h q _ (by omega) (by omega)]
  · rfl
theorem weV_we {D : LaS} {E : LaY} (hD : LOK D) (hE : YOK E) {ru : RU} {cs sr : Int} {vf : Int → Int} {n s a : Int} (hn : 1 ≤ n) (hs : 0 ≤ s) (ha : 0 ≤ a) (h : n > 1 → ∀ b : Int, 0 ≤ b → b ≤ 40 → vf (ceS (n - 1) (nxS D s) + b) = weN D E ru cs sr (n - 2).toNat (nxS D s) b) : weV D cs sr (kpS D E ru cs sr n s a) vf n s a = weN D E ru cs sr (n - 1).toNat s a := by
  have zk := kpS_b hD hE (ru := ru) (cs := cs) (sr := sr) (n := n) (s := s) ha
  by_cases q : n > 1
  · obtain ⟨m, rfl⟩ : ∃ m : Nat, n = m + 2 := ⟨(n - 2).toNat, by omega⟩
    rw [show ((m : Int) + 2 - 1).toNat = m + 1 by omega]
    unfold weN
    refine weV_congr hD hs zk.1 zk.2 fun z b z0 z1 => ?_
    have := h z b z0 z1
    rw [show ((m : Int) + 2 - 2).toNat = m by omega] at this
    rw [this]
    try dsimp only
    rw [show (m : Int) + 2 - 1 = m + 1 by omega]
    congr 1
    omega
  · rw [show n = 1 by omega] at zk ⊢
    show _ = weV D cs sr (kpS D E ru cs sr 1 s a) (fun _ => 0) 1 s a
    exact weV_congr hD hs zk.1 zk.2 fun z => by omega
theorem eaS_b {D : LaS} (hD : LOK D) {sr e : Int} (h0 : 0 ≤ e) : 0 ≤ eaS D sr e ∧ eaS D sr e ≤ 180 ∧ eaS D sr e ≤ e := by
  have h1 := saS_b hD e
  have h2 := hD.2.2.2.2.2.2.2.2.2.1
  unfold eaS
  split <;> omega
theorem goS_b {D : LaS} (hD : LOK D) {e : Int} (h1 : e ≤ 180) : 0 ≤ goS D e ∧ goS D e ≤ 17820 := by
  have := goN_b hD e.toNat
  unfold goS
  omega
/-- the table of welfare is right as far as its levels -/
def WlV (D : LaS) (E : LaY) (ru : RU) (cs sr : Int) (vf wl lf : Int → Int) : Prop := ∀ t : Int, 0 ≤ t → t < lSe D → 0 ≤ wl t ∧ wl t ≤ lf t ∧ ∀ n : Int, 1 ≤ n → n ≤ wl t → ∀ a : Int, 0 ≤ a → a ≤ 40 → vf (ceS n (bkN D (n - 1).toNat t) + a) = weN D E ru cs sr (n - 1).toNat (bkN D (n - 1).toNat t) a
theorem WlV.step {D : LaS} {E : LaY} (hD : LOK D) {ru : RU} {cs sr : Int} {vf wl lf vf' : Int → Int} {t n : Int} (h : WlV D E ru cs sr vf wl lf) (ht0 : 0 ≤ t) (ht1 : t < lSe D) (hn1 : 1 ≤ n) (hn : n ≤ 12) (hl : wl t = n - 1) (hlf : n ≤ lf t) (hl12 : ∀ t : Int, 0 ≤ t → t < lSe D → lf t ≤ 12)
    (hrow : ∀ a : Int, 0 ≤ a → a ≤ 40 → vf' (ceS n (bkN D (n - 1).toNat t) + a) = weN D E ru cs sr (n - 1).toNat (bkN D (n - 1).toNat t) a) (hoth : ∀ x : Int, x < ceS n (bkN D (n - 1).toNat t) ∨ ceS n (bkN D (n - 1).toNat t) + 40 < x → vf' x = vf x) : WlV D E ru cs sr vf' (fu wl t n) lf := by
  have zb := bkN_b hD (n - 1).toNat ht0 ht1
  intro t' z0 z1
  obtain ⟨h1, h2, h3⟩ := h t' z0 z1
  by_cases e : t' = t
  · subst e
    rw [fu_same]
    refine ⟨by omega, hlf, fun m m1 m2 a a0 a1 => ?_⟩
    by_cases e2 : m = n
    · subst e2; exact hrow a a0 a1
    · have zb2 := bkN_b hD (m - 1).toNat ht0 ht1
      rw [hoth (ceS m (bkN D (m - 1).toNat t') + a) (by unfold ceS; omega)]
      exact h3 m m1 (by omega) a a0 a1
  · rw [fu_ne e]
    refine ⟨h1, h2, fun m m1 m2 a a0 a1 => ?_⟩
    have zb2 := bkN_b hD (m - 1).toNat z0 z1
    have hm12 := hl12 t' z0 z1
    have hne : m = n → bkN D (m - 1).toNat t' ≠ bkN D (n - 1).toNat t := fun e2 e3 => by
      subst e2
      exact e (bkN_inj hD _ z0 z1 ht0 ht1 e3)
    rw [hoth (ceS m (bkN D (m - 1).toNat t') + a) (by
      unfold ceS
      by_cases e2 : m = n
      · have := hne e2; omega
      · omega)]
    exact h3 m m1 m2 a a0 a1
def PlanW (h : AH) (i : Int) (D : LaS) (E : LaY) (ru : RU) (sr cs : Int) (wf : Option Nm) (wl lf : Int → Int) : Prop := (wf = none ∧ h (53, i) = none ∧ ∀ t : Int, 0 ≤ t → t < lSe D → wl t = 0 ∧ 0 ≤ lf t) ∨ (wf = some (53, i) ∧ ∃ vf, h (53, i) = some (oL ((lSe D).toNat * 492) vf) ∧ WlV D E ru cs sr vf wl lf)
