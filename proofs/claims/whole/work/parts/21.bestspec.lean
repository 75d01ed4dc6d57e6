/-! ===== the best: definitions and bounds ===== -/
def mxN (v : Nat → Int) : Nat → Int × Nat
  | 0 => (v 0, 0)
  | m + 1 => if v (m + 1) > (mxN v m).1 then (v (m + 1), m + 1) else mxN v m
def fbA (D : LaS) (cs : Int) (bf : Int → Int) (n s k : Int) : Int := if n > 1 then suF (stG D bf (n - 1) (nxS D s) (leS D k)) (lHv D (nxS D s)).toNat - beN D (n - 1).toNat s * cs * k else 0
def fbV (D : LaS) (cs : Int) (gf bf : Int → Int) (n s a : Int) (k : Nat) : Int := beN D (n - 1).toNat s * gf (a - k) + fbA D cs bf n s k
theorem mxN_in {v : Nat → Int} {lo hi : Int} : ∀ m : Nat, (∀ j, j ≤ m → lo ≤ v j ∧ v j ≤ hi) → lo ≤ (mxN v m).1 ∧ (mxN v m).1 ≤ hi
  | 0, h => h 0 (Nat.le_refl _)
  | m + 1, h => by
    simp only [mxN]
    split
    · exact h (m + 1) (Nat.le_refl _)
    · exact mxN_in m (fun j hj => h j (by omega))
theorem mxN_le {v : Nat → Int} : ∀ m : Nat, (mxN v m).2 ≤ m
  | 0 => Nat.le_refl _
  | m + 1 => by
    simp only [mxN]
    split
    · exact Nat.le_refl _
    · have := mxN_le (v := v) m; omega
theorem mxN_v0 {v : Nat → Int} : ∀ m : Nat, v 0 ≤ (mxN v m).1
  | 0 => Int.le_refl _
  | m + 1 => by
    have := mxN_v0 (v := v) m
    simp only [mxN]
    split <;> omega
theorem mxN_congr {v v' : Nat → Int} : ∀ m : Nat, (∀ j, j ≤ m → v j = v' j) → mxN v m = mxN v' m
  | 0, h => by simp only [mxN]; rw [h 0 (Nat.le_refl _)]
  | m + 1, h => by
    simp only [mxN]
    rw [mxN_congr m (fun j hj => h j (by omega)), h (m + 1) (Nat.le_refl _)]
theorem beN_b {D : LaS} (hD : LOK D) : ∀ (m : Nat) {s : Int}, 0 ≤ s → 1 ≤ beN D m s ∧ beN D m s ≤ 12 ^ m
  | 0, s, _ => by simp [beN]
  | m + 1, s, h0 => by
    have zn := nxS_b hD h0
    have h1 := beN_b hD m zn.1
    have h2 := hD.2.2.2.2.2.2.2.2.2.2.2.2 (nxS D s) zn.1 zn.2
    simp only [beN]
    have h3 := mul_b (x := lWs D (nxS D s)) (y := beN D m (nxS D s)) (a := 12) (by omega) (by omega) (by omega) h1.2
    have h4 : (1 : Int) * 1 ≤ lWs D (nxS D s) * beN D m (nxS D s) := Int.mul_le_mul (by omega) h1.1 (by omega) (by omega)
    refine ⟨by omega, ?_⟩
    rw [Int.pow_succ, Int.mul_comm]
    have : (12 : Int) * 12 ^ m = 12 ^ m * 12 := Int.mul_comm _ _
    rw [Int.mul_comm (beN D m (nxS D s))]
    omega
theorem beN_b11 {D : LaS} (hD : LOK D) {m : Nat} (hm : m ≤ 11) {s : Int} (h0 : 0 ≤ s) : 1 ≤ beN D m s ∧ beN D m s ≤ 743008370688 := by
  have h1 := beN_b hD m h0
  have h2 : (12 : Int) ^ m ≤ 743008370688 := by
    rcases (by omega : m = 0 ∨ m = 1 ∨ m = 2 ∨ m = 3 ∨ m = 4 ∨ m = 5 ∨ m = 6 ∨ m = 7 ∨ m = 8 ∨ m = 9 ∨ m = 10 ∨ m = 11) with rfl | rfl | rfl | rfl | rfl | rfl | rfl | rfl | rfl | rfl | rfl | rfl <;> decide
  omega
/-- how much a best can be -/
def bbS (D : LaS) (n s : Int) : Int := beN D (n - 1).toNat s * (n * 17820)
theorem bbS_b {D : LaS} (hD : LOK D) {n s : Int} (hn1 : 1 ≤ n) (hn : n ≤ 12) (hs : 0 ≤ s) : 0 ≤ bbS D n s ∧ bbS D n s ≤ 158884909987921920 := by
  have h1 := beN_b11 hD (m := (n - 1).toNat) (by omega) hs
  have := mul_b (x := beN D (n - 1).toNat s) (y := n * 17820) (b := 213840) (by omega) h1.2 (by omega) (by omega)
  unfold bbS
  omega
theorem suN_suF {f : Int → Int} {b : Int} : ∀ n : Nat, suN f b n = suF (fun j => f (b + j)) n
  | 0 => rfl
  | n + 1 => by simp only [suN, suF]; rw [suN_suF n]
theorem suF_mulb {w g : Nat → Int} {B : Int} : ∀ n : Nat, (∀ j, j < n → 0 ≤ w j ∧ 0 ≤ g j ∧ g j ≤ B) → 0 ≤ suF (fun j => w j * g j) n ∧ suF (fun j => w j * g j) n ≤ suF w n * B
  | 0, _ => by simp [suF]
  | n + 1, h => by
    have h1 := suF_mulb n (fun j hj => h j (by omega))
    have h2 := h n (by omega)
    simp only [suF]
    have h3 : 0 ≤ w n * g n := Int.mul_nonneg h2.1 h2.2.1
    have h4 : w n * g n ≤ w n * B := Int.mul_le_mul_of_nonneg_left h2.2.2 h2.1
    rw [Int.add_mul]
    omega
theorem stG_b {D : LaS} (hD : LOK D) {bf : Int → Int} {n s left B : Int} (hs0 : 0 ≤ s) (hs1 : s < lSe D) (hl0 : 0 ≤ left) (hl1 : left ≤ 20) (hb : ∀ a : Int, 0 ≤ a → a ≤ 40 → 0 ≤ bf (ceS n s + a) ∧ bf (ceS n s + a) ≤ B) :
    0 ≤ suF (stG D bf n s left) (lHv D s).toNat ∧ suF (stG D bf n s left) (lHv D s).toNat ≤ lWs D s * B := by
  obtain ⟨hv1, hv2, -, -, hv4, hv3⟩ := hD.2.2.2.2.2.2.2.2.2.2.2.2 s hs0 hs1
  rw [hv4, suN_suF]
  have h := suF_mulb (w := fun j => lWt D (4 * s + j)) (g := fun j => bf (ceS n s + left + lSk D (s * 4 + j))) (B := B) (lHv D s).toNat (fun j hj => by
    obtain ⟨zk1, zk2, zk3, zk4⟩ := hv3 j (by omega) (by omega)
    rw [show 4 * s + (j : Int) = s * 4 + j by omega] at zk1 zk2
    have := hb (left + lSk D (s * 4 + j)) (by omega) (by omega)
    rw [show ceS n s + (left + lSk D (s * 4 + j)) = ceS n s + left + lSk D (s * 4 + j) by omega] at this
    exact ⟨by omega, this⟩)
  have e : suF (stG D bf n s left) (lHv D s).toNat = suF (fun j => lWt D (4 * s + j) * bf (ceS n s + left + lSk D (s * 4 + j))) (lHv D s).toNat := suF_congr _ fun j _ => by
    unfold stG
    rw [show 4 * s + (j : Int) = s * 4 + j by omega]
  rw [e]
  exact h
/-- a best is at least 0 and at most bbS, if the ones behind it are -/
theorem fbV_b {D : LaS} (hD : LOK D) {cs : Int} {gf bf : Int → Int} {n s a : Int} {k : Nat} (hcs0 : 0 ≤ cs) (hcs1 : cs ≤ 30) (hn1 : 1 ≤ n) (hn : n ≤ 12) (hs0 : 0 ≤ s) (hs1 : s < lSe D) (hk : (k : Int) ≤ 20) (hka : (k : Int) ≤ a) (ha : a ≤ 40)
    (hg : ∀ b : Int, 0 ≤ b → b ≤ 40 → 0 ≤ gf b ∧ gf b ≤ 17820) (hb : n > 1 → ∀ b : Int, 0 ≤ b → b ≤ 40 → 0 ≤ bf (ceS (n - 1) (nxS D s) + b) ∧ bf (ceS (n - 1) (nxS D s) + b) ≤ bbS D (n - 1) (nxS D s)) :
    -445805022412800 ≤ fbV D cs gf bf n s a k ∧ fbV D cs gf bf n s a k ≤ bbS D n s ∧ (k = 0 → 0 ≤ fbV D cs gf bf n s a k) := by
  have h1 := beN_b11 hD (m := (n - 1).toNat) (by omega) hs0
  have h2 := hg (a - k) (by omega) (by omega)
  have h3 := Int.mul_nonneg (a := beN D (n - 1).toNat s) (b := gf (a - k)) (by omega) h2.1
  have h4 : beN D (n - 1).toNat s * gf (a - k) ≤ beN D (n - 1).toNat s * 17820 := Int.mul_le_mul_of_nonneg_left h2.2 (by omega)
  have zn := nxS_b hD hs0
  have zl := leS_b hD (k := k) (by omega)
  unfold fbV fbA bbS
  by_cases q : n > 1
  · rw [if_pos q]
    have h5 := stG_b hD (left := leS D k) zn.1 zn.2 zl.1 (by omega) (hb q)
    have h6 := mul_b (x := beN D (n - 1).toNat s) (y := cs) (by omega) h1.2 hcs0 hcs1
    have h7 := mul_b h6.1 h6.2 (y := (k : Int)) (by omega) hk
    have e1 : lWs D (nxS D s) * bbS D (n - 1) (nxS D s) = beN D (n - 1).toNat s * ((n - 1) * 17820) := by
      unfold bbS
      rw [show (n - 1).toNat = (n - 1 - 1).toNat + 1 by omega]
      simp only [beN]
      rw [Int.mul_assoc]
    have e2 : beN D (n - 1).toNat s * (n * 17820) = beN D (n - 1).toNat s * 17820 + beN D (n - 1).toNat s * ((n - 1) * 17820) := by
      rw [← Int.mul_add]; congr 1; omega
    refine ⟨by omega, by omega, fun z => ?_⟩
    subst z
    simp only [Int.natCast_zero, Int.mul_zero] at *
    omega
  · rw [if_neg q]
    have e2 : beN D (n - 1).toNat s * (n * 17820) = beN D (n - 1).toNat s * 17820 := by
      rw [show n = 1 by omega]; simp
    refine ⟨by omega, by omega, fun _ => by omega⟩
