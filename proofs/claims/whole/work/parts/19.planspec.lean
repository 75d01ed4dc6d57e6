/-! ===== what a plan's tables hold: definitions and bounds ===== -/
theorem mul_b {x y a b : Int} (hx0 : 0 ≤ x) (hx : x ≤ a) (hy0 : 0 ≤ y) (hy : y ≤ b) : 0 ≤ x * y ∧ x * y ≤ a * b :=
  ⟨Int.mul_nonneg hx0 hy0, Int.mul_le_mul hx hy hy0 (Int.le_trans hx0 hx)⟩
theorem suF_b {g : Nat → Int} {B : Int} : ∀ n : Nat, (∀ j, j < n → 0 ≤ g j ∧ g j ≤ B) → 0 ≤ suF g n ∧ suF g n ≤ n * B
  | 0, _ => by simp [suF]
  | n + 1, h => by
    have h1 := suF_b n (fun j hj => h j (by omega))
    have h2 := h n (by omega)
    simp only [suF]
    have h3 : ((n + 1 : Nat) : Int) * B = n * B + B := by rw [Int.natCast_add, Int.add_mul]; simp
    omega
theorem suF_congr {g g' : Nat → Int} : ∀ n : Nat, (∀ j, j < n → g j = g' j) → suF g n = suF g' n
  | 0, _ => rfl
  | n + 1, h => by
    simp only [suF]
    rw [suF_congr n (fun j hj => h j (by omega)), h n (by omega)]
def fsk (P : Nat → Bool) : Nat → Nat → Nat
  | 0, k => k
  | f + 1, k => if P k = true then k else fsk P f (k + 1)
theorem fsk_le (P : Nat → Bool) : ∀ f k : Nat, k ≤ fsk P f k ∧ fsk P f k ≤ k + f
  | 0, k => ⟨Nat.le_refl _, Nat.le_refl _⟩
  | f + 1, k => by
    simp only [fsk]
    split
    · omega
    · have := fsk_le P f (k + 1); omega
theorem fsk_no (P : Nat → Bool) : ∀ f k j : Nat, k ≤ j → j < fsk P f k → P j = false
  | 0, k, j, h1, h2 => by simp only [fsk] at h2; omega
  | f + 1, k, j, h1, h2 => by
    simp only [fsk] at h2
    split at h2
    · omega
    · rename_i q
      by_cases e : j = k
      · subst e; simpa using q
      · exact fsk_no P f (k + 1) j (by omega) h2
/-- begun later, where nothing before stops: the same -/
theorem fsk_skip (P : Nat → Bool) : ∀ (t f k : Nat), (∀ j, k ≤ j → j < k + t → P j = false) → fsk P (f + t) k = fsk P f (k + t)
  | 0, f, k, _ => rfl
  | t + 1, f, k, h => by
    have h1 : P k = false := h k (by omega) (by omega)
    rw [show f + (t + 1) = (f + t) + 1 by omega]
    simp only [fsk, h1]
    rw [if_neg (by simp), fsk_skip P t f (k + 1) (fun j a b => h j (by omega) (by omega))]
    congr 1
    omega
def faM (D : LaS) (E : LaY) (n : Int) : Int := if n > 1 then moS D E else 0
def reS (D : LaS) : Int := if lMi D > 0 then lMi D - 1 else 1
def paS (D : LaS) : Int := if lMi D > 0 then lMi D else 1
def faA (D : LaS) (kf : Int → Int) (n s k : Int) : Int := suF (ptG D kf (n - 1) (nxS D s) (leS D k)) (lHv D (nxS D s)).toNat
def faT (D : LaS) (cs : Int) (kf : Int → Int) (n s a : Int) (k : Nat) : Bool := decide (faA D kf n s (k + 1) * reS D ≤ (prS D (a - k) + cs) * (paS D * lWs D (nxS D s)))
def faR (D : LaS) (E : LaY) (cs : Int) (kf : Int → Int) (n s a : Int) : Nat := fsk (faT D cs kf n s a) (min a (faM D E n)).toNat 0
theorem ptG_b {D : LaS} (hD : LOK D) (kf : Int → Int) {n s left : Int} (hs0 : 0 ≤ s) (hs1 : s < lSe D) : ∀ j : Nat, j < (lHv D s).toNat → 0 ≤ ptG D kf n s left j ∧ ptG D kf n s left j ≤ 891 := fun j hj => by
  obtain ⟨hv1, hv2, -, -, -, hv3⟩ := hD.2.2.2.2.2.2.2.2.2.2.2.2 s hs0 hs1
  obtain ⟨zk1, zk2, zk3, zk4⟩ := hv3 j (by omega) (by omega)
  rw [show 4 * s + (j : Int) = s * 4 + j by omega] at zk3 zk4
  have := prS_lo hD (left + lSk D (s * 4 + j) - kf (ceS n s + (left + lSk D (s * 4 + j))))
  have := mul_b (x := lWt D (s * 4 + j)) (a := 9) (by omega) zk4 this.1 this.2
  unfold ptG
  omega
theorem faA_b {D : LaS} (hD : LOK D) (kf : Int → Int) {n s k : Int} (hs0 : 0 ≤ s) : 0 ≤ faA D kf n s k ∧ faA D kf n s k ≤ 3564 := by
  have zn := nxS_b hD hs0
  have h1 := suF_b (lHv D (nxS D s)).toNat (ptG_b hD kf (n := n - 1) (left := leS D k) zn.1 zn.2)
  have h2 := hD.2.2.2.2.2.2.2.2.2.2.2.2 (nxS D s) zn.1 zn.2
  unfold faA
  omega
theorem reS_b {D : LaS} (hD : LOK D) : 1 ≤ reS D ∧ reS D ≤ 19 := by
  have := hD.2.2.2.2
  unfold reS
  split <;> omega
theorem paS_b {D : LaS} (hD : LOK D) : 1 ≤ paS D ∧ paS D ≤ 20 := by
  have := hD.2.2.2.2
  unfold paS
  split <;> omega
theorem moS_b {D : LaS} {E : LaY} (hD : LOK D) (hE : YOK E) : 0 ≤ moS D E ∧ moS D E ≤ 20 := by
  have h1 := hD.2.2.2.2.2.2.2
  have h2 := hE.1
  unfold moS
  omega
theorem faM_b {D : LaS} {E : LaY} (hD : LOK D) (hE : YOK E) (n : Int) : 0 ≤ faM D E n ∧ faM D E n ≤ 20 := by
  have := moS_b hD hE
  unfold faM
  split <;> omega
theorem prS_anti {D : LaS} (hD : LOK D) {e : Int} (h0 : 0 ≤ e) : prS D (e + 1) ≤ prS D e := by
  have h1 := hD.2.2.2.2.2.2.2.2.2.2.1
  have h2 := hD.2.2.2.2.2.2.2.2.2.2.2.1
  unfold prS
  split
  · rename_i q
    rw [if_pos (by omega)]
    exact h2 e h0 (by omega)
  · split
    · rename_i q
      have := h1 e (by omega) (by omega)
      omega
    · omega
/-- with one sack more no fewer are kept: the count may go on from the amount below -/
theorem faR_step {D : LaS} {E : LaY} (hD : LOK D) (hE : YOK E) {cs : Int} {kf : Int → Int} {n s a : Int} (ha : 0 ≤ a) (hs : 0 ≤ s) :
    faR D E cs kf n s (a + 1) = fsk (faT D cs kf n s (a + 1)) ((min (a + 1) (faM D E n)).toNat - faR D E cs kf n s a) (faR D E cs kf n s a) ∧ faR D E cs kf n s a ≤ (min (a + 1) (faM D E n)).toNat := by
  have zn := nxS_b hD hs
  have hM := faM_b hD hE n
  have h1 := fsk_le (faT D cs kf n s a) (min a (faM D E n)).toNat 0
  have h2 := fsk_no (faT D cs kf n s a) (min a (faM D E n)).toNat 0
  have hle : faR D E cs kf n s a ≤ (min (a + 1) (faM D E n)).toNat := by unfold faR; omega
  refine ⟨?_, hle⟩
  have h3 : ∀ j : Nat, 0 ≤ j → j < 0 + faR D E cs kf n s a → faT D cs kf n s (a + 1) j = false := fun j _ hj => by
    have h4 := h2 j (by omega) (by unfold faR at hj; omega)
    have hja : (j : Int) < a := by unfold faR at hj; omega
    unfold faT at h4 ⊢
    have h5 := prS_anti hD (e := a - j) (by omega)
    rw [show a - (j : Int) + 1 = a + 1 - j by omega] at h5
    have h6 := paS_b hD
    have h7 := hD.2.2.2.2.2.2.2.2.2.2.2.2 (nxS D s) zn.1 zn.2
    have h8 : 0 ≤ paS D * lWs D (nxS D s) := Int.mul_nonneg (by omega) (by omega)
    have h9 : (prS D (a + 1 - j) + cs) * (paS D * lWs D (nxS D s)) ≤ (prS D (a - j) + cs) * (paS D * lWs D (nxS D s)) := Int.mul_le_mul_of_nonneg_right (by omega) h8
    simp only [decide_eq_false_iff_not, Int.not_le] at h4 ⊢
    omega
  have h10 := fsk_skip (faT D cs kf n s (a + 1)) (faR D E cs kf n s a) ((min (a + 1) (faM D E n)).toNat - faR D E cs kf n s a) 0 h3
  rw [show (min (a + 1) (faM D E n)).toNat - faR D E cs kf n s a + faR D E cs kf n s a = (min (a + 1) (faM D E n)).toNat by omega, Nat.zero_add] at h10
  exact h10
