/-! ===== the bytes of a number (the first rows begin as kit/laws/BITS) ===== -/
def bt (x : Int32) (i : Nat) : Bool := x.toBitVec.getLsbD i
theorem b_ext {x y : Int32} (h : ∀ i, i < 32 → bt x i = bt y i) : x = y := Int32.toBitVec_inj.mp (BitVec.eq_of_getLsbD_eq (fun i hi => h i hi))
theorem b_and (x y : Int32) (i : Nat) : bt (x &&& y) i = (bt x i && bt y i) := by unfold bt; rw [Int32.toBitVec_and, BitVec.getLsbD_and]
theorem b_big {x : Int32} {i : Nat} (h : 32 ≤ i) : bt x i = false := BitVec.getLsbD_of_ge _ _ h
theorem b_255 (i : Nat) : bt 255 i = decide (i < 8) := by
  rcases Nat.lt_or_ge i 32 with h | h
  · exact (by decide +kernel : ∀ i, i < 32 → bt 255 i = decide (i < 8)) i h
  · rw [b_big h, decide_eq_false (by omega)]
theorem s_l : ∀ n, n < 32 → ((nI n &&& 31).toBitVec.smod 32).toNat = n := by decide +kernel
theorem s_u : ∀ n, n < 32 → (((nI n).toUInt32 &&& Int32.toUInt32 31).toBitVec % 32).toNat = n := by decide +kernel
theorem b_ushr (n : Nat) (hn : n < 32) (x : Int32) (i : Nat) : bt ((x.toUInt32 >>> ((nI n).toUInt32 &&& Int32.toUInt32 31)).toInt32) i = bt x (n + i) := by
  show (x.toUInt32 >>> ((nI n).toUInt32 &&& Int32.toUInt32 31)).toBitVec.getLsbD i = x.toUInt32.toBitVec.getLsbD (n + i)
  rw [UInt32.toBitVec_shiftRight]
  show (x.toUInt32.toBitVec >>> (((nI n).toUInt32 &&& Int32.toUInt32 31).toBitVec % 32).toNat).getLsbD i = _
  rw [s_u n hn, BitVec.getLsbD_ushiftRight]
theorem b_sshr (n : Nat) (hn : n < 32) (x : Int32) {i : Nat} (hi : i < 32) : bt (x >>> (nI n &&& 31)) i = if n + i < 32 then bt x (n + i) else bt x 31 := by
  unfold bt
  rw [Int32.toBitVec_shiftRight]
  show (x.toBitVec.sshiftRight ((nI n &&& 31).toBitVec.smod 32).toNat).getLsbD i = _
  rw [s_l n hn, BitVec.getLsbD_sshiftRight, BitVec.msb_eq_getLsbD_last]
  simp [hi]
def byS (x sh : Int) : Int := ((Int32.ofInt x >>> (Int32.ofInt sh &&& 31)) &&& 255).toInt
theorem byS_st (x sh : Int) (h0 : 0 ≤ sh) (h1 : sh ≤ 24) : Int32.ofInt (((Int32.ofInt x).toUInt32 >>> ((Int32.ofInt sh).toUInt32 &&& Int32.toUInt32 31)).toInt32).toInt &&& Int32.ofInt 255 = Int32.ofInt (byS x sh) := by
  unfold byS
  rw [Int32.ofInt_toInt, Int32.ofInt_toInt]
  obtain ⟨n, rfl⟩ : ∃ n : Nat, sh = (n : Int) := ⟨sh.toNat, by omega⟩
  apply b_ext
  intro i hi
  rw [b_and, b_and]
  show (_ && bt 255 i) = (_ && bt 255 i)
  rw [b_255]
  by_cases h8 : i < 8
  · have e1 := b_ushr n (by omega) (Int32.ofInt x) i
    have e2 := b_sshr n (by omega) (Int32.ofInt x) hi
    rw [if_pos (by omega)] at e2
    have e3 : nI n = Int32.ofInt (n : Int) := rfl
    rw [e3] at e1 e2
    rw [e1, e2]
  · simp [h8]
theorem byS_sh (x sh : Int) : Int32.ofInt (Int32.ofInt x >>> (Int32.ofInt sh &&& 31)).toInt &&& Int32.ofInt 255 = Int32.ofInt (byS x sh) := by
  unfold byS
  rw [Int32.ofInt_toInt, Int32.ofInt_toInt]
  rfl
theorem byS_b (x sh : Int) : 0 ≤ byS x sh ∧ byS x sh ≤ 255 := by
  unfold byS
  generalize Int32.ofInt x >>> (Int32.ofInt sh &&& 31) = v
  have h1 : (v &&& 255).toBitVec.toNat ≤ 255 := by
    rw [Int32.toBitVec_and, BitVec.toNat_and]
    exact Nat.and_le_right
  have h2 : (v &&& 255).toInt = ((v &&& 255).toBitVec.toNat : Int) := BitVec.toInt_eq_toNat_of_lt (by omega)
  omega
def Fr (P : Nm → Prop) (h h' : AH) : Prop := ∀ n, ¬ P n → h' n = h n
theorem Fr.rf (P : Nm → Prop) (h : AH) : Fr P h h := fun _ _ => rfl
theorem Fr.tr {P : Nm → Prop} {h h' h2 : AH} (a : Fr P h h') (b : Fr P h' h2) : Fr P h h2 := fun n hn => (b n hn).trans (a n hn)
theorem Fr.mono {P Q : Nm → Prop} {h h' : AH} (a : Fr P h h') (hq : ∀ n, P n → Q n) : Fr Q h h' := fun n hn => a n fun p => hn (hq n p)
theorem Fr.up {P : Nm → Prop} {h : AH} {n : Nm} {o : AO} (hp : P n) : Fr P h (up h n o) := fun x hx => up_ne fun e => hx (by rw [e]; exact hp)
theorem Fr.push {P : Nm → Prop} {h h' : AH} {n : Nm} {o : AO} (a : Fr P h h') (hp : P n) : Fr P h (Jvm.Pilot.@@N@@.up h' n o) := a.tr (Fr.up hp)
