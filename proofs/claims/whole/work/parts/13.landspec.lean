/-! ===== a land: its numbers, its cells, what is asked of it ===== -/
theorem vI_eq {a b : Int} (h : a = b) : (some (vI a) : Option AV) = some (vI b) := by rw [h]
theorem vL_eq {a b : Int} (h : a = b) : (some (vL a) : Option AV) = some (vL b) := by rw [h]
abbrev LaS : Type := Int × Int × Int × Int × Nat × (Int → Int) × (Int → Int) × (Int → Int) × (Int → Int) × (Int → Int)
def lSe (D : LaS) : Int := D.1
def lCo (D : LaS) : Int := D.2.1
def lMi (D : LaS) : Int := D.2.2.1
def lRo (D : LaS) : Int := D.2.2.2.1
def lNe (D : LaS) : Nat := D.2.2.2.2.1
def lPa (D : LaS) : Int → Int := D.2.2.2.2.2.1
def lHv (D : LaS) : Int → Int := D.2.2.2.2.2.2.1
def lSk (D : LaS) : Int → Int := D.2.2.2.2.2.2.2.1
def lWt (D : LaS) : Int → Int := D.2.2.2.2.2.2.2.2.1
def lWs (D : LaS) : Int → Int := D.2.2.2.2.2.2.2.2.2
abbrev LaY : Type := Int × Int × Option Nm × Int × Int × Int × (Int → Int)
def yLaw (E : LaY) : Int := E.1
def yRn (E : LaY) : Int := E.2.1
def yOwn (E : LaY) : Option Nm := E.2.2.1
def yBuy (E : LaY) : Int := E.2.2.2.1
def ySell (E : LaY) : Int := E.2.2.2.2.1
def yGr (E : LaY) : Int := E.2.2.2.2.2.1
def yTab (E : LaY) : Int → Int := E.2.2.2.2.2.2
def lF (l : Int) (D : LaS) (E : LaY) : List AV := [vI (lSe D), vI (lCo D), vI (lMi D), vI (lRo D), vR (31, l), vR (32, l), vR (33, l), vR (34, l), vR (35, l), vR (36, l), vR (37, l), vR (38, l), vR (39, l), vR (40, l), vI (yLaw E), vI (yRn E), vO (yOwn E), vI (yBuy E), vI (ySell E), vI (yGr E)]
/-- f b + f (b + 1) + .. , n of them -/
def suN (f : Int → Int) (b : Int) : Nat → Int
  | 0 => 0
  | n + 1 => suN f b n + f (b + n)
/-- what is true of a land that was told -/
def LOK (D : LaS) : Prop := 1 ≤ lSe D ∧ lSe D ≤ 4 ∧ 0 ≤ lCo D ∧ lCo D ≤ 30 ∧ 0 ≤ lMi D ∧ lMi D ≤ 20 ∧ lMi D ≠ 1 ∧ 0 ≤ lRo D ∧ lRo D ≤ 20 ∧ lNe D ≤ 180 ∧ (∀ i : Int, 0 ≤ i → i < lNe D → 1 ≤ lPa D i ∧ lPa D i ≤ 99) ∧ (∀ i : Int, 0 ≤ i → i + 1 < lNe D → lPa D (i + 1) ≤ lPa D i) ∧
  (∀ s : Int, 0 ≤ s → s < lSe D → 1 ≤ lHv D s ∧ lHv D s ≤ 4 ∧ 1 ≤ lWs D s ∧ lWs D s ≤ 12 ∧ lWs D s = suN (lWt D) (4 * s) (lHv D s).toNat ∧ ∀ i : Int, 0 ≤ i → i < lHv D s → 0 ≤ lSk D (4 * s + i) ∧ lSk D (4 * s + i) ≤ 20 ∧ 1 ≤ lWt D (4 * s + i) ∧ lWt D (4 * s + i) ≤ 9)
def YOK (E : LaY) : Prop := 0 ≤ yLaw E ∧ yLaw E ≤ 20 ∧ 0 ≤ yBuy E ∧ yBuy E ≤ ySell E ∧ ySell E ≤ 99 ∧ 0 ≤ yGr E ∧ yGr E ≤ 20 ∧ -1 ≤ yRn E ∧ yRn E ≤ 5 ∧ ∀ i, 0 ≤ i → i < 164 → 0 ≤ yTab E i ∧ yTab E i ≤ 20
def prS (D : LaS) (e : Int) : Int := if 0 ≤ e ∧ e < lNe D then lPa D e else 0
def goN (D : LaS) : Nat → Int
  | 0 => 0
  | n + 1 => goN D n + prS D n
def goS (D : LaS) (e : Int) : Int := goN D e.toNat
def leS (D : LaS) (k : Int) : Int := if lMi D > 0 then k - k / lMi D else k
def moS (D : LaS) (E : LaY) : Int := min (lRo D) (yLaw E)
def nxS (D : LaS) (s : Int) : Int := if s + 1 < lSe D then s + 1 else 0
def pvS (D : LaS) (s : Int) : Int := if s > 0 then s - 1 else lSe D - 1
def beN (D : LaS) : Nat → Int → Int
  | 0, _ => 1
  | n + 1, s => lWs D (nxS D s) * beN D n (nxS D s)
def tkS (D : LaS) (b : Int) : Int := if 1 ≤ b ∧ b ≤ lNe D then b * lPa D (b - 1) else 0
def btN (D : LaS) : Nat → Int
  | 0 => 0
  | b + 1 => if tkS D (b + 1 : Nat) > btN D b then tkS D (b + 1 : Nat) else btN D b
def bsN (D : LaS) : Nat → Int
  | 0 => 0
  | b + 1 => if tkS D (b + 1 : Nat) > btN D b then (b + 1 : Nat) else bsN D b
def saS (D : LaS) (e : Int) : Int := if 0 ≤ e ∧ e ≤ 40 then bsN D e.toNat else 0
def psS (D : LaS) (e : Int) : Int := if 1 ≤ e ∧ e ≤ lNe D then lPa D (e - 1) else 100
def eaS (D : LaS) (sr e : Int) : Int := if sr = 3 then saS D e else min e (lNe D)
def poS (D : LaS) (sr e : Int) : Int := if sr = 3 then psS D (saS D e) else prS D e
/-- the cells of land number l -/
def LandAt (h : AH) (l : Int) (D : LaS) (E : LaY) (pl : Int → Option Nm) : Prop :=
  h (30, l) = some (oO 0 (lF l D E)) ∧ h (31, l) = some (oI (lNe D) (lPa D)) ∧ h (32, l) = some (oI 4 (lHv D)) ∧ h (33, l) = some (oI 16 (lSk D)) ∧ h (34, l) = some (oI 16 (lWt D)) ∧ h (35, l) = some (oI 4 (lWs D)) ∧ h (36, l) = some (oI 164 (yTab E)) ∧
  (∃ f, h (37, l) = some (oI 201 f) ∧ ∀ e, 0 ≤ e → e ≤ 200 → f e = goS D e) ∧ (∃ f, h (38, l) = some (oI 41 f) ∧ ∀ b, 0 ≤ b → b ≤ 40 → f b = btN D b.toNat) ∧ (∃ f, h (39, l) = some (oI 41 f) ∧ ∀ b, 0 ≤ b → b ≤ 40 → f b = bsN D b.toNat) ∧ h (40, l) = some (oA 6 6 pl)
theorem prS_lo {D : LaS} (hD : LOK D) (e : Int) : 0 ≤ prS D e ∧ prS D e ≤ 99 := by
  unfold prS
  split
  · rename_i q
    have := hD.2.2.2.2.2.2.2.2.2.2.1 e q.1 q.2
    omega
  · omega
theorem leS_b {D : LaS} (hD : LOK D) {k : Int} (h0 : 0 ≤ k) : 0 ≤ leS D k ∧ leS D k ≤ k := by
  unfold leS
  have h1 := hD.2.2.2.2.1
  split
  · rename_i q
    have h2 : 0 ≤ k / lMi D := Int.ediv_nonneg h0 h1
    have h3 : k / lMi D ≤ k := Int.ediv_le_self _ h0
    omega
  · omega
theorem nxS_b {D : LaS} (hD : LOK D) {s : Int} (h0 : 0 ≤ s) : 0 ≤ nxS D s ∧ nxS D s < lSe D := by
  unfold nxS
  have := hD.1
  split <;> omega
theorem pvS_b {D : LaS} (hD : LOK D) {s : Int} (h0 : 0 ≤ s) (h1 : s < lSe D) : 0 ≤ pvS D s ∧ pvS D s < lSe D := by
  unfold pvS
  have := hD.1
  split <;> omega
theorem nx_pv {D : LaS} (hD : LOK D) {s : Int} (h0 : 0 ≤ s) (h1 : s < lSe D) : nxS D (pvS D s) = s := by
  unfold nxS pvS
  have := hD.1
  split <;> split <;> omega
theorem pv_nx {D : LaS} (hD : LOK D) {s : Int} (h0 : 0 ≤ s) (h1 : s < lSe D) : pvS D (nxS D s) = s := by
  unfold nxS pvS
  have := hD.1
  split <;> split <;> omega
theorem LandAt.mv {h h' : AH} {n : Nm} {o : AO} {l : Int} {D : LaS} {E : LaY} {pl : Int → Option Nm} (e : up h n o = h') (hn : n.1 < 30 ∨ 40 < n.1) (hL : LandAt h l D E pl) : LandAt h' l D E pl := by
  subst e
  have q : ∀ j : Nat, 30 ≤ j → j ≤ 40 → up h n o (j, l) = h (j, l) := fun j a b => up_ne fun e => by
    rw [← e] at hn
    simp at hn
    omega
  obtain ⟨g30, g31, g32, g33, g34, g35, g36, g37, g38, g39, g40⟩ := hL
  refine ⟨(q 30 (by omega) (by omega)).trans g30, (q 31 (by omega) (by omega)).trans g31, (q 32 (by omega) (by omega)).trans g32, (q 33 (by omega) (by omega)).trans g33, (q 34 (by omega) (by omega)).trans g34, (q 35 (by omega) (by omega)).trans g35, (q 36 (by omega) (by omega)).trans g36, ?_, ?_, ?_, (q 40 (by omega) (by omega)).trans g40⟩
  · rw [q 37 (by omega) (by omega)]; exact g37
  · rw [q 38 (by omega) (by omega)]; exact g38
  · rw [q 39 (by omega) (by omega)]; exact g39
theorem LandAt.fr {h h' : AH} {l : Int} {D : LaS} {E : LaY} {pl : Int → Option Nm} (hq : ∀ j : Nat, 30 ≤ j → j ≤ 40 → h' (j, l) = h (j, l)) (hL : LandAt h l D E pl) : LandAt h' l D E pl := by
  obtain ⟨g30, g31, g32, g33, g34, g35, g36, g37, g38, g39, g40⟩ := hL
  refine ⟨(hq 30 (by omega) (by omega)).trans g30, (hq 31 (by omega) (by omega)).trans g31, (hq 32 (by omega) (by omega)).trans g32, (hq 33 (by omega) (by omega)).trans g33, (hq 34 (by omega) (by omega)).trans g34, (hq 35 (by omega) (by omega)).trans g35, (hq 36 (by omega) (by omega)).trans g36, ?_, ?_, ?_, (hq 40 (by omega) (by omega)).trans g40⟩
  · rw [hq 37 (by omega) (by omega)]; exact g37
  · rw [hq 38 (by omega) (by omega)]; exact g38
  · rw [hq 39 (by omega) (by omega)]; exact g39
theorem tkS_b {D : LaS} (hD : LOK D) (b : Int) : 0 ≤ tkS D b ∧ tkS D b ≤ 17820 := by
  unfold tkS
  split
  · rename_i q
    have h1 := hD.2.2.2.2.2.2.2.2.2.2.1 (b - 1) (by omega) (by omega)
    have h2 := hD.2.2.2.2.2.2.2.2.2.1
    have h3 : 0 ≤ b * lPa D (b - 1) := Int.mul_nonneg (by omega) (by omega)
    have h4 : b * lPa D (b - 1) ≤ 180 * 99 := Int.mul_le_mul (by omega) h1.2 (by omega) (by omega)
    omega
  · omega
theorem btN_b {D : LaS} (hD : LOK D) : ∀ n : Nat, 0 ≤ btN D n ∧ btN D n ≤ 17820
  | 0 => by simp [btN]
  | n + 1 => by
    have h1 := btN_b hD n
    have h2 := tkS_b hD (n + 1 : Nat)
    simp only [btN]
    split <;> omega
theorem bsN_b {D : LaS} (hD : LOK D) : ∀ n : Nat, 0 ≤ bsN D n ∧ bsN D n ≤ n ∧ bsN D n ≤ lNe D
  | 0 => by simp [bsN]
  | n + 1 => by
    have h1 := bsN_b hD n
    have h3 := btN_b hD n
    simp only [bsN]
    split
    · rename_i q
      refine ⟨by omega, by omega, ?_⟩
      unfold tkS at q
      split at q <;> omega
    · omega
theorem saS_b {D : LaS} (hD : LOK D) (e : Int) : 0 ≤ saS D e ∧ saS D e ≤ 40 ∧ saS D e ≤ lNe D ∧ (0 ≤ e → saS D e ≤ e) := by
  unfold saS
  split
  · rename_i q
    have := bsN_b hD e.toNat
    omega
  · omega
theorem psS_b {D : LaS} (hD : LOK D) (e : Int) : 0 ≤ psS D e ∧ psS D e ≤ 100 := by
  unfold psS
  split
  · rename_i q
    have := hD.2.2.2.2.2.2.2.2.2.2.1 (e - 1) (by omega) (by omega)
    omega
  · omega
