/-! ===== what a plan keeps, by seasons to go; tables that are right as far as their levels ===== -/
def bkN (D : LaS) : Nat → Int → Int
  | 0, t => t
  | m + 1, t => pvS D (bkN D m t)
theorem bkN_b {D : LaS} (hD : LOK D) : ∀ (m : Nat) {t : Int}, 0 ≤ t → t < lSe D → 0 ≤ bkN D m t ∧ bkN D m t < lSe D
  | 0, _, h0, h1 => ⟨h0, h1⟩
  | m + 1, _, h0, h1 => pvS_b hD (bkN_b hD m h0 h1).1 (bkN_b hD m h0 h1).2
theorem nx_bk {D : LaS} (hD : LOK D) (m : Nat) {t : Int} (h0 : 0 ≤ t) (h1 : t < lSe D) : nxS D (bkN D (m + 1) t) = bkN D m t := nx_pv hD (bkN_b hD m h0 h1).1 (bkN_b hD m h0 h1).2
theorem bkN_inj {D : LaS} (hD : LOK D) : ∀ (m : Nat) {t t' : Int}, 0 ≤ t → t < lSe D → 0 ≤ t' → t' < lSe D → bkN D m t = bkN D m t' → t = t'
  | 0, _, _, _, _, _, _, h => h
  | m + 1, t, t', h0, h1, h2, h3, h => by
    have a := nx_bk hD m h0 h1
    have b := nx_bk hD m h2 h3
    rw [h, b] at a
    exact bkN_inj hD m h0 h1 h2 h3 a.symm
theorem bk_la {D : LaS} (hD : LOK D) : ∀ (m : Nat) {s : Int}, 0 ≤ s → s < lSe D → bkN D m (laN D m s) = s
  | 0, _, _, _ => rfl
  | m + 1, s, h0, h1 => by
    have zn := nxS_b hD h0
    simp only [laN, bkN]
    rw [bk_la hD m zn.1 zn.2, pv_nx hD h0 h1]
def kaN (D : LaS) (E : LaY) (cs : Int) : Nat → Int → Int → Nat
  | 0, s, a => faR D E cs (fun _ => 0) 1 s a
  | m + 1, s, a => faR D E cs (fun x => (kaN D E cs m (nxS D s) (x - ceS (m + 1) (nxS D s)) : Int)) (m + 2) s a
def bvN (D : LaS) (E : LaY) (cs : Int) (g : Int → Int) : Nat → Int → Int → Int × Nat
  | 0, s, a => mxN (fbV D cs g (fun _ => 0) 1 s a) (min a (faM D E 1)).toNat
  | m + 1, s, a => mxN (fbV D cs g (fun x => (bvN D E cs g m (nxS D s) (x - ceS (m + 1) (nxS D s))).1) (m + 2) s a) (min a (faM D E (m + 2))).toNat
abbrev RU : Type := Option (Nat × (Int → Int))
def kuS (D : LaS) (E : LaY) (ru : RU) (n s a : Int) : Int := if n > 1 then (match ru with
  | none => 0
  | some q => max 0 (min (woS q.2 q.1 a s n (prS D a) (min a (moS D E))) (min a (moS D E)))) else 0
def gaS (D : LaS) (sr : Int) : Int → Int := fun a => if sr = 3 then btN D a.toNat else goS D a
def kpS (D : LaS) (E : LaY) (ru : RU) (cs sr n s a : Int) : Int := if sr = 1 then kaN D E cs (n - 1).toNat s a else if sr = 2 ∨ sr = 3 then (bvN D E cs (gaS D sr) (n - 1).toNat s a).2 else if sr = 4 then kuS D E ru n s a else 0
def bpS (D : LaS) (E : LaY) (cs sr n s a : Int) : Int := (bvN D E cs (gaS D sr) (n - 1).toNat s a).1
theorem goN_b {D : LaS} (hD : LOK D) : ∀ n : Nat, 0 ≤ goN D n ∧ goN D n ≤ n * 99
  | 0 => by simp [goN]
  | n + 1 => by
    have h1 := goN_b hD n
    have h2 := prS_lo hD n
    simp only [goN]
    omega
theorem gaS_b {D : LaS} (hD : LOK D) {sr : Int} (b : Int) (h0 : 0 ≤ b) (h1 : b ≤ 40) : 0 ≤ gaS D sr b ∧ gaS D sr b ≤ 17820 := by
  unfold gaS
  split
  · have := btN_b hD b.toNat; omega
  · have := goN_b hD b.toNat; unfold goS; omega
theorem faA_congr {D : LaS} (hD : LOK D) {kf kf' : Int → Int} {n s k : Int} (hs : 0 ≤ s) (hk0 : 0 ≤ k) (hk : k ≤ 20) (h : ∀ b : Int, 0 ≤ b → b ≤ 40 → kf (ceS (n - 1) (nxS D s) + b) = kf' (ceS (n - 1) (nxS D s) + b)) : faA D kf n s k = faA D kf' n s k := by
  have zn := nxS_b hD hs
  have zl := leS_b hD hk0
  obtain ⟨hv1, hv2, -, -, -, hv3⟩ := hD.2.2.2.2.2.2.2.2.2.2.2.2 (nxS D s) zn.1 zn.2
  unfold faA
  refine suF_congr _ fun j hj => ?_
  obtain ⟨zk1, zk2, -, -⟩ := hv3 j (by omega) (by omega)
  rw [show 4 * nxS D s + (j : Int) = nxS D s * 4 + j by omega] at zk1 zk2
  unfold ptG
  rw [h (leS D k + lSk D (nxS D s * 4 + j)) (by omega) (by omega)]
theorem fsk_congr {P P' : Nat → Bool} : ∀ (f k : Nat), (∀ j, k ≤ j → j < k + f → P j = P' j) → fsk P f k = fsk P' f k
  | 0, _, _ => rfl
  | f + 1, k, h => by
    simp only [fsk]
    rw [h k (by omega) (by omega), fsk_congr f (k + 1) (fun j a b => h j (by omega) (by omega))]
theorem faR_congr {D : LaS} {E : LaY} (hD : LOK D) (hE : YOK E) {cs : Int} {kf kf' : Int → Int} {n s a : Int} (hs : 0 ≤ s) (h : n > 1 → ∀ b : Int, 0 ≤ b → b ≤ 40 → kf (ceS (n - 1) (nxS D s) + b) = kf' (ceS (n - 1) (nxS D s) + b)) : faR D E cs kf n s a = faR D E cs kf' n s a := by
  have hM := faM_b hD hE n
  unfold faR
  by_cases q : n > 1
  · refine fsk_congr _ _ fun j z0 z1 => ?_
    unfold faT
    rw [faA_congr hD hs (by omega) (by omega) (h q)]
  · have : faM D E n = 0 := by unfold faM; rw [if_neg q]
    rw [this, show (min a 0).toNat = 0 by omega]
    rfl
theorem fbA_congr {D : LaS} (hD : LOK D) {cs : Int} {bf bf' : Int → Int} {n s k : Int} (hs : 0 ≤ s) (hk0 : 0 ≤ k) (hk : k ≤ 20) (h : n > 1 → ∀ b : Int, 0 ≤ b → b ≤ 40 → bf (ceS (n - 1) (nxS D s) + b) = bf' (ceS (n - 1) (nxS D s) + b)) : fbA D cs bf n s k = fbA D cs bf' n s k := by
  have zn := nxS_b hD hs
  have zl := leS_b hD hk0
  obtain ⟨hv1, hv2, -, -, -, hv3⟩ := hD.2.2.2.2.2.2.2.2.2.2.2.2 (nxS D s) zn.1 zn.2
  unfold fbA
  split
  · rename_i q
    congr 1
    refine suF_congr _ fun j hj => ?_
    obtain ⟨zk1, zk2, -, -⟩ := hv3 j (by omega) (by omega)
    rw [show 4 * nxS D s + (j : Int) = nxS D s * 4 + j by omega] at zk1 zk2
    unfold stG
    rw [show ceS (n - 1) (nxS D s) + leS D k + lSk D (nxS D s * 4 + j) = ceS (n - 1) (nxS D s) + (leS D k + lSk D (nxS D s * 4 + j)) by omega, h q _ (by omega) (by omega)]
  · rfl
theorem fbV_congr {D : LaS} (hD : LOK D) {cs : Int} {gf gf' bf bf' : Int → Int} {n s a : Int} {k : Nat} (hs : 0 ≤ s) (hk : (k : Int) ≤ 20) (hka : (k : Int) ≤ a) (ha : a ≤ 40) (hg : ∀ b : Int, 0 ≤ b → b ≤ 40 → gf b = gf' b) (h : n > 1 → ∀ b : Int, 0 ≤ b → b ≤ 40 → bf (ceS (n - 1) (nxS D s) + b) = bf' (ceS (n - 1) (nxS D s) + b)) : fbV D cs gf bf n s a k = fbV D cs gf' bf' n s a k := by
  unfold fbV
  rw [fbA_congr hD hs (by omega) hk h, hg (a - k) (by omega) (by omega)]
theorem kaN_le {D : LaS} {E : LaY} (hD : LOK D) (hE : YOK E) {cs : Int} (m : Nat) (s a : Int) : (kaN D E cs m s a : Int) ≤ 20 := by
  have hM := faM_b hD hE
  cases m with
  | zero =>
    have := fsk_le (faT D cs (fun _ => 0) 1 s a) (min a (faM D E 1)).toNat 0
    have := hM 1
    unfold kaN faR
    omega
  | succ m =>
    have := fsk_le (faT D cs (fun x => (kaN D E cs m (nxS D s) (x - ceS (m + 1) (nxS D s)) : Int)) (m + 2) s a) (min a (faM D E (m + 2))).toNat 0
    have := hM (m + 2)
    unfold kaN faR
    omega
theorem bvN_le {D : LaS} {E : LaY} (hD : LOK D) (hE : YOK E) {cs : Int} {g : Int → Int} (m : Nat) (s a : Int) : ((bvN D E cs g m s a).2 : Int) ≤ 20 := by
  have hM := faM_b hD hE
  cases m with
  | zero =>
    have := mxN_le (v := fbV D cs g (fun _ => 0) 1 s a) (min a (faM D E 1)).toNat
    have := hM 1
    unfold bvN
    omega
  | succ m =>
    have := mxN_le (v := fbV D cs g (fun x => (bvN D E cs g m (nxS D s) (x - ceS (m + 1) (nxS D s))).1) (m + 2) s a) (min a (faM D E (m + 2))).toNat
    have := hM (m + 2)
    unfold bvN
    omega
theorem kpS_b {D : LaS} {E : LaY} (hD : LOK D) (hE : YOK E) {ru : RU} {cs sr n s a : Int} (ha : 0 ≤ a) : 0 ≤ kpS D E ru cs sr n s a ∧ kpS D E ru cs sr n s a ≤ 20 := by
  have h1 := kaN_le hD hE (cs := cs) (n - 1).toNat s a
  have h2 := bvN_le hD hE (cs := cs) (g := gaS D sr) (n - 1).toNat s a
  have h3 := moS_b hD hE
  unfold kpS
  split
  · omega
  · split
    · omega
    · split
      · unfold kuS
        split
        · split <;> omega
        · omega
      · omega
/-- the row of fillAll is the one asked for -/
theorem faR_ka {D : LaS} {E : LaY} (hD : LOK D) (hE : YOK E) {cs : Int} {kf : Int → Int} {n s a : Int} (hn : 1 ≤ n) (hs : 0 ≤ s) (h : n > 1 → ∀ b : Int, 0 ≤ b → b ≤ 40 → kf (ceS (n - 1) (nxS D s) + b) = kaN D E cs (n - 2).toNat (nxS D s) b) : faR D E cs kf n s a = kaN D E cs (n - 1).toNat s a := by
  by_cases q : n > 1
  · obtain ⟨m, rfl⟩ : ∃ m : Nat, n = m + 2 := ⟨(n - 2).toNat, by omega⟩
    rw [show ((m : Int) + 2 - 1).toNat = m + 1 by omega]
    unfold kaN
    refine faR_congr hD hE hs fun z b z0 z1 => ?_
    have := h z b z0 z1
    rw [show ((m : Int) + 2 - 2).toNat = m by omega] at this
    rw [this]
    try dsimp only
    rw [show (m : Int) + 2 - 1 = m + 1 by omega]
    congr 2
    omega
  · rw [show n = 1 by omega]
    show _ = faR D E cs (fun _ => 0) 1 s a
    exact faR_congr hD hE hs fun z => by omega
theorem mx_bv {D : LaS} {E : LaY} (hD : LOK D) (hE : YOK E) {cs : Int} {g gf bf : Int → Int} {n s a : Int} (hn : 1 ≤ n) (hs : 0 ≤ s) (ha0 : 0 ≤ a) (ha : a ≤ 40) (hg : ∀ b : Int, 0 ≤ b → b ≤ 40 → gf b = g b) (h : n > 1 → ∀ b : Int, 0 ≤ b → b ≤ 40 → bf (ceS (n - 1) (nxS D s) + b) = (bvN D E cs g (n - 2).toNat (nxS D s) b).1) :
    mxN (fbV D cs gf bf n s a) (min a (faM D E n)).toNat = bvN D E cs g (n - 1).toNat s a := by
  have hM := faM_b hD hE n
  by_cases q : n > 1
  · obtain ⟨m, rfl⟩ : ∃ m : Nat, n = m + 2 := ⟨(n - 2).toNat, by omega⟩
    rw [show ((m : Int) + 2 - 1).toNat = m + 1 by omega]
    unfold bvN
    refine mxN_congr _ fun j hj => fbV_congr hD hs (by omega) (by omega) ha hg fun z b z0 z1 => ?_
    have := h z b z0 z1
    rw [show ((m : Int) + 2 - 2).toNat = m by omega] at this
    rw [this]
    try dsimp only
    rw [show (m : Int) + 2 - 1 = m + 1 by omega]
    congr 2
    omega
  · rw [show n = 1 by omega]
    show _ = mxN (fbV D cs g (fun _ => 0) 1 s a) (min a (faM D E 1)).toNat
    exact mxN_congr _ fun j hj => fbV_congr hD hs (by rw [show n = 1 by omega] at hM; omega) (by omega) ha hg fun z => by omega
theorem bvN_b {D : LaS} {E : LaY} (hD : LOK D) (hE : YOK E) {cs : Int} {g : Int → Int} (hcs0 : 0 ≤ cs) (hcs1 : cs ≤ 30) (hg : ∀ b : Int, 0 ≤ b → b ≤ 40 → 0 ≤ g b ∧ g b ≤ 17820) : ∀ (m : Nat) {s a : Int}, m ≤ 11 → 0 ≤ s → s < lSe D → 0 ≤ a → a ≤ 40 → 0 ≤ (bvN D E cs g m s a).1 ∧ (bvN D E cs g m s a).1 ≤ bbS D (m + 1) s
  | 0, s, a, hm, hs0, hs1, ha0, ha1 => by
    have hM := faM_b hD hE 1
    have hv : ∀ j : Nat, j ≤ (min a (faM D E 1)).toNat → _ := fun j hj => fbV_b hD (k := j) (gf := g) (bf := fun _ => 0) (a := a) (n := 1) hcs0 hcs1 (by omega) (by omega) hs0 hs1 (by omega) (by omega) ha1 hg (fun z => by omega)
    have h1 := mxN_in (v := fbV D cs g (fun _ => 0) 1 s a) (lo := -445805022412800) (hi := bbS D 1 s) (min a (faM D E 1)).toNat (fun j hj => ⟨(hv j hj).1, (hv j hj).2.1⟩)
    have h2 := mxN_v0 (v := fbV D cs g (fun _ => 0) 1 s a) (min a (faM D E 1)).toNat
    have h3 := (hv 0 (by omega)).2.2 rfl
    unfold bvN
    exact ⟨by omega, h1.2⟩
  | m + 1, s, a, hm, hs0, hs1, ha0, ha1 => by
    have zn := nxS_b hD hs0
    have hM := faM_b hD hE (m + 2)
    have hv : ∀ j : Nat, j ≤ (min a (faM D E (m + 2))).toNat → _ := fun j hj => fbV_b hD (k := j) (gf := g) (bf := fun x => (bvN D E cs g m (nxS D s) (x - ceS (m + 1) (nxS D s))).1) (a := a) (n := m + 2) hcs0 hcs1 (by omega) (by omega) hs0 hs1 (by omega) (by omega) ha1 hg (fun z b z0 z1 => by
      have := bvN_b hD hE hcs0 hcs1 hg m (s := nxS D s) (a := b) (by omega) zn.1 zn.2 z0 z1
      try dsimp only
      rw [show ((m : Int) + 2 - 1) = m + 1 by omega, show ceS ((m : Int) + 1) (nxS D s) + b - ceS ((m : Int) + 1) (nxS D s) = b by omega]
      exact this)
    have h1 := mxN_in (lo := -445805022412800) (hi := bbS D (m + 2) s) (min a (faM D E (m + 2))).toNat (fun j hj => ⟨(hv j hj).1, (hv j hj).2.1⟩)
    have h2 := mxN_v0 (v := fbV D cs g (fun x => (bvN D E cs g m (nxS D s) (x - ceS (m + 1) (nxS D s))).1) (m + 2) s a) (min a (faM D E (m + 2))).toNat
    have h3 := (hv 0 (by omega)).2.2 rfl
    unfold bvN
    refine ⟨by omega, ?_⟩
    rw [show (((m + 1 : Nat) : Int) + 1) = m + 2 by omega]
    exact h1.2
def PlV (D : LaS) (E : LaY) (ru : RU) (cs sr : Int) (kf bf lf : Int → Int) : Prop := (∀ x : Int, 0 ≤ x → x < (lSe D).toNat * 492 → 0 ≤ kf x ∧ kf x ≤ 20 ∧ (sr = 0 → kf x = 0)) ∧ ∀ t : Int, 0 ≤ t → t < lSe D → 0 ≤ lf t ∧ lf t ≤ 12 ∧ ∀ n : Int, 1 ≤ n → n ≤ lf t → ∀ a : Int, 0 ≤ a → a ≤ 40 →
  kf (ceS n (bkN D (n - 1).toNat t) + a) = kpS D E ru cs sr n (bkN D (n - 1).toNat t) a ∧ (sr = 2 ∨ sr = 3 → bf (ceS n (bkN D (n - 1).toNat t) + a) = bpS D E cs sr n (bkN D (n - 1).toNat t) a)
/-- one level more -/
theorem PlV.step {D : LaS} {E : LaY} (hD : LOK D) (hE : YOK E) {ru : RU} {cs sr : Int} {kf bf lf kf' bf' : Int → Int} {t n : Int} (h : PlV D E ru cs sr kf bf lf) (ht0 : 0 ≤ t) (ht1 : t < lSe D) (hn1 : 1 ≤ n) (hn : n ≤ 12) (hl : lf t = n - 1)
    (hrow : ∀ a : Int, 0 ≤ a → a ≤ 40 → kf' (ceS n (bkN D (n - 1).toNat t) + a) = kpS D E ru cs sr n (bkN D (n - 1).toNat t) a ∧ (sr = 2 ∨ sr = 3 → bf' (ceS n (bkN D (n - 1).toNat t) + a) = bpS D E cs sr n (bkN D (n - 1).toNat t) a))
    (hoth : ∀ x : Int, x < ceS n (bkN D (n - 1).toNat t) ∨ ceS n (bkN D (n - 1).toNat t) + 40 < x → kf' x = kf x ∧ bf' x = bf x) : PlV D E ru cs sr kf' bf' (fu lf t n) := by
  have zb := bkN_b hD (n - 1).toNat ht0 ht1
  refine ⟨fun x z0 z1 => ?_, fun t' z0 z1 => ?_⟩
  · by_cases q : x < ceS n (bkN D (n - 1).toNat t) ∨ ceS n (bkN D (n - 1).toNat t) + 40 < x
    · rw [(hoth x q).1]; exact h.1 x z0 z1
    · have := (hrow (x - ceS n (bkN D (n - 1).toNat t)) (by omega) (by omega)).1
      rw [show ceS n (bkN D (n - 1).toNat t) + (x - ceS n (bkN D (n - 1).toNat t)) = x by omega] at this
      rw [this]
      have zkb := kpS_b hD hE (ru := ru) (cs := cs) (sr := sr) (n := n) (s := bkN D (n - 1).toNat t) (a := x - ceS n (bkN D (n - 1).toNat t)) (by omega)
      exact ⟨zkb.1, zkb.2, fun z => by unfold kpS; rw [if_neg (by omega), if_neg (by omega), if_neg (by omega)]⟩
  · obtain ⟨h1, h2, h3⟩ := h.2 t' z0 z1
    by_cases e : t' = t
    · subst e
      rw [fu_same]
      refine ⟨by omega, hn, fun m m1 m2 a a0 a1 => ?_⟩
      by_cases e2 : m = n
      · subst e2; exact hrow a a0 a1
      · have zb2 := bkN_b hD (m - 1).toNat ht0 ht1
        have := hoth (ceS m (bkN D (m - 1).toNat t') + a) (by unfold ceS; omega)
        rw [this.1, this.2]
        exact h3 m m1 (by omega) a a0 a1
    · rw [fu_ne e]
      refine ⟨h1, h2, fun m m1 m2 a a0 a1 => ?_⟩
      have zb2 := bkN_b hD (m - 1).toNat z0 z1
      have hne : m = n → bkN D (m - 1).toNat t' ≠ bkN D (n - 1).toNat t := fun e2 e3 => by
        subst e2
        exact e (bkN_inj hD _ z0 z1 ht0 ht1 e3)
      have := hoth (ceS m (bkN D (m - 1).toNat t') + a) (by
        unfold ceS
        by_cases e2 : m = n
        · have := hne e2; omega
        · omega)
      rw [this.1, this.2]
      exact h3 m m1 m2 a a0 a1
