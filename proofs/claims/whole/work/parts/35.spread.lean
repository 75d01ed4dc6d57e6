/-! ===== the spread of amounts ===== -/
def SprAt (h : AH) (b : Int) (f : Int → Int) : Prop := (b = 0 ∨ b = 1) ∧ h (16, 0) = some (oO 5 [vR (17, b), vR (17, 1 - b)]) ∧ h (17, b) = some (oL 41 f) ∧ ∃ g, h (17, 1 - b) = some (oL 41 g)
abbrev isSpr : Nm → Prop := fun z => z.1 = 16 ∨ z.1 = 17
def sp2 (D : LaS) (q le fa : Int) (g : Int → Int) : Nat → Int → Int
  | 0 => g
  | j + 1 => fu (sp2 D q le fa g j) (le + lSk D (q * 4 + j)) (sp2 D q le fa g j (le + lSk D (q * 4 + j)) + fa * lWt D (q * 4 + j))
def sp1 (D : LaS) (kq : Int → Int → Int) (s : Int) (f g : Int → Int) : Nat → Int → Int
  | 0 => g
  | a + 1 => if f a = 0 then sp1 D kq s f g a else sp2 D (nxS D s) (leS D (kq s a)) (f a) (sp1 D kq s f g a) (lHv D (nxS D s)).toNat
theorem sp2_b {D : LaS} {q le fa : Int} {g : Int → Int} (hfa : 0 ≤ fa) {x : Int} (hg : 0 ≤ g x) : ∀ j : Nat, (∀ i : Nat, i < j → 0 ≤ lWt D (q * 4 + i)) → 0 ≤ sp2 D q le fa g j x ∧ g x ≤ sp2 D q le fa g j x ∧ sp2 D q le fa g j x ≤ g x + fa * suF (fun i => lWt D (q * 4 + i)) j
  | 0, _ => by simp only [sp2, suF]; omega
  | j + 1, hw => by
    obtain ⟨h1, h2, h3⟩ := sp2_b (le := le) hfa hg j (fun i hi => hw i (by omega))
    have h4 := hw j (by omega)
    have h5 : 0 ≤ fa * lWt D (q * 4 + j) := Int.mul_nonneg hfa h4
    simp only [sp2, suF]
    rw [Int.mul_add]
    by_cases e : x = le + lSk D (q * 4 + j)
    · subst e
      rw [fu_same]
      omega
    · rw [fu_ne e]
      omega
theorem lWs_su {D : LaS} (hD : LOK D) {q : Int} (h0 : 0 ≤ q) (h1 : q < lSe D) : suF (fun i => lWt D (q * 4 + i)) (lHv D q).toNat = lWs D q := by
  obtain ⟨-, -, -, -, h5, -⟩ := hD.2.2.2.2.2.2.2.2.2.2.2.2 q h0 h1
  rw [h5, suN_suF]
  refine suF_congr _ fun j _ => ?_
  rw [Int.mul_comm 4 q]
theorem lWt_0 {D : LaS} (hD : LOK D) {q : Int} (h0 : 0 ≤ q) (h1 : q < lSe D) : ∀ i : Nat, i < (lHv D q).toNat → 0 ≤ lWt D (q * 4 + i) := fun i hi => by
  obtain ⟨-, -, -, -, -, h5⟩ := hD.2.2.2.2.2.2.2.2.2.2.2.2 q h0 h1
  have := h5 i (by omega) (by omega)
  rw [Int.mul_comm 4 q] at this
  omega
theorem sp1_b {D : LaS} (hD : LOK D) {kq : Int → Int → Int} {s B : Int} {f g : Int → Int} (hs : 0 ≤ s) (hf : ∀ a : Int, 0 ≤ a → a ≤ 40 → 0 ≤ f a ∧ f a ≤ B) {x : Int} (hg : g x = 0) : ∀ a : Nat, a ≤ 41 → 0 ≤ sp1 D kq s f g a x ∧ sp1 D kq s f g a x ≤ a * (12 * B)
  | 0, _ => by simp [sp1, hg]
  | a + 1, ha => by
    obtain ⟨h1, h2⟩ := sp1_b hD (kq := kq) hs hf hg a (by omega)
    have h3 := hf a (by omega) (by omega)
    have zn := nxS_b hD hs
    have hB : 0 ≤ 12 * B := by omega
    have e : ((a + 1 : Nat) : Int) * (12 * B) = a * (12 * B) + 12 * B := by rw [Int.natCast_succ, Int.add_mul, Int.one_mul]
    simp only [sp1]
    rw [e]
    split
    · omega
    · have h4 := sp2_b (D := D) (q := nxS D s) (le := leS D (kq s a)) h3.1 h1 (lHv D (nxS D s)).toNat (lWt_0 hD zn.1 zn.2)
      rw [lWs_su hD zn.1 zn.2] at h4
      obtain ⟨-, -, w1, w2, -, -⟩ := hD.2.2.2.2.2.2.2.2.2.2.2.2 (nxS D s) zn.1 zn.2
      have h5 := mul_b h3.1 h3.2 (y := lWs D (nxS D s)) (by omega) w2
      omega
theorem sp2_congr {D : LaS} {q le fa : Int} {g g' : Int → Int} (hg : ∀ x : Int, 0 ≤ x → x ≤ 40 → g x = g' x) : ∀ (j : Nat), (∀ i : Nat, i < j → 0 ≤ le + lSk D (q * 4 + i) ∧ le + lSk D (q * 4 + i) ≤ 40) → ∀ x : Int, 0 ≤ x → x ≤ 40 → sp2 D q le fa g j x = sp2 D q le fa g' j x
  | 0, _, x, h0, h1 => hg x h0 h1
  | j + 1, hw, x, h0, h1 => by
    have h2 := hw j (by omega)
    simp only [sp2]
    unfold fu
    split
    · rw [sp2_congr hg j (fun i hi => hw i (by omega)) _ h2.1 h2.2]
    · exact sp2_congr hg j (fun i hi => hw i (by omega)) x h0 h1
theorem lSk_in {D : LaS} (hD : LOK D) {q : Int} (h0 : 0 ≤ q) (h1 : q < lSe D) {i : Nat} (hi : i < (lHv D q).toNat) : 0 ≤ lSk D (q * 4 + i) ∧ lSk D (q * 4 + i) ≤ 20 := by
  obtain ⟨-, -, -, -, -, h5⟩ := hD.2.2.2.2.2.2.2.2.2.2.2.2 q h0 h1
  have := h5 i (by omega) (by omega)
  rw [Int.mul_comm 4 q] at this
  omega
theorem sp1_congr {D : LaS} (hD : LOK D) {kq : Int → Int → Int} {s : Int} {f f' g g' : Int → Int} (hs : 0 ≤ s) (hs1 : s < lSe D) (hk : kqOK D kq) (hf : ∀ a : Int, 0 ≤ a → a ≤ 40 → f a = f' a) (hg : ∀ x : Int, 0 ≤ x → x ≤ 40 → g x = g' x) : ∀ (a : Nat), a ≤ 41 → ∀ x : Int, 0 ≤ x → x ≤ 40 → sp1 D kq s f g a x = sp1 D kq s f' g' a x
  | 0, _, x, h0, h1 => hg x h0 h1
  | a + 1, ha, x, h0, h1 => by
    have zn := nxS_b hD hs
    have zk := hk s a hs hs1 (by omega) (by omega)
    have zl := leS_b hD zk.1
    simp only [sp1]
    rw [hf a (by omega) (by omega)]
    split
    · exact sp1_congr hD hs hs1 hk hf hg a (by omega) x h0 h1
    · exact sp2_congr (sp1_congr hD hs hs1 hk hf hg a (by omega)) _ (fun i hi => by have := lSk_in hD zn.1 zn.2 hi; omega) x h0 h1
def shS (w x a k p : Int) : Int := if w = 0 then (if a ≤ x then 1 else 0) else if w = 1 then (if k = 0 then 1 else 0) else if w = 2 then (if p ≥ x then 1 else 0) else if w = 3 then p else 1
def wgN (D : LaS) (sr : Int) (kq : Int → Int → Int) (s w x : Int) (f : Int → Int) : Nat → Int
  | 0 => 0
  | a + 1 => if f a = 0 then wgN D sr kq s w x f a else wgN D sr kq s w x f a + f a * shS w x a (kq s a) (poS D sr (a - kq s a))
theorem shS_b {w x a k p : Int} (h0 : 0 ≤ p) (h1 : p ≤ 100) : 0 ≤ shS w x a k p ∧ shS w x a k p ≤ 100 := by
  unfold shS
  split
  · split <;> omega
  · split
    · split <;> omega
    · split
      · split <;> omega
      · split <;> omega
theorem poS_b {D : LaS} (hD : LOK D) (sr e : Int) : 0 ≤ poS D sr e ∧ poS D sr e ≤ 100 := by
  unfold poS
  split
  · exact psS_b hD _
  · have := prS_lo hD e
    omega
set_option maxRecDepth 100000 in
set_option maxHeartbeats 4000000 in
theorem ev_X6_begin {k : WC} {d : Nat} {h : AH} {b a : Int} {f : Int → Int} (hd : 2 ≤ d) (hX : SprAt h b f) (ha0 : 0 ≤ a) (ha1 : a ≤ 40) : Ev k d mdX6_begin h [vR (16, 0), vI a] 0 0 (pn fun h' => ∃ f', SprAt h' b f' ∧ (∀ x : Int, 0 ≤ x → x ≤ 40 → f' x = if x = a then 1 else 0) ∧ Fr isSpr h h') := by
  obtain ⟨zb, zx1, zx2, g, zx3⟩ := hX
  refine Ev.mk (by decide +kernel) [_, _] rfl (Nat.le_of_ble_eq_true rfl) (fun w hc he => ?_)
  refine j_aload_n hc dX6_begin_0 rfl ?_
  refine j_get hc dX6_begin_1 fX6_9 zx1 rfl ?_
  refine j_lconst (x := 0) hc dX6_begin_4 (by decide) ?_
  refine j_callS (d' := d - 1) hc dX6_begin_5 sX6_18 (ev_J7_fill_d0a16 (by omega) (by omega) zx2) rfl (by omega) (by omega) (by omega) rfl rfl (Nat.le_of_ble_eq_true rfl) (retN fun zq5 zp5 => ?_)
  obtain ⟨⟨f5, zH5, zv5⟩, zF5⟩ := zp5
  have zX5 := (zF5 (16, 0) (by simp)).trans zx1
  have zB5 := (zF5 (17, 1 - b) (by simp; omega)).trans zx3
  refine j_aload_n hc dX6_begin_8 rfl ?_
  refine j_get hc dX6_begin_9 fX6_9 zX5 rfl ?_
  refine j_iload_n hc dX6_begin_12 rfl ?_
  refine j_lconst (x := 1) hc dX6_begin_13 (by decide) ?_
  refine j_last hc dX6_begin_14 zH5 (by omega) (by omega) ?_
  generalize ezh1 : up _ _ _ = zh1
  have zX_zh1 := (congrFun ezh1 _).symm.trans ((up_ne (by simp)).trans zX5)
  have zXH_zh1 := (congrFun ezh1 _).symm.trans (up_same _ _ _)
  have zXB_zh1 := (congrFun ezh1 _).symm.trans ((up_ne (by simp; omega)).trans zB5)
  exact j_vret hc he dX6_begin_15 rfl (by omega) (by omega) ⟨rfl, _, ⟨zb, zX_zh1, zXH_zh1, _, zXB_zh1⟩, (fun x z0 z1 => by
      unfold fu
      split
      · rfl
      · exact zv5 x z0 (by show x < 41; omega)), by rw [← ezh1]; exact (zF5.mono (fun z zz => by rw [zz]; exact Or.inr rfl)).push (Or.inr rfl)⟩
set_option maxRecDepth 100000 in
set_option maxHeartbeats 4000000 in
theorem ev_X6_share {k : WC} {d : Nat} {h : AH} {wh x a kk p : Int} (hd : 1 ≤ d) (hw0 : 0 ≤ wh) (hw1 : wh ≤ 4) (hx : inI x) (ha : inI a) (hk : inI kk) (hp : inI p) : Ev k d mdX6_share h [vI wh, vI x, vI a, vI kk, vI p] 0 0 (pr (vI (shS wh x a kk p)) h) := by
  refine Ev.mk (by decide +kernel) [_, _, _, _, _] rfl (Nat.le_of_ble_eq_true rfl) (fun w hc he => ?_)
  refine j_iload_n hc dX6_share_0 rfl ?_
  rcases (by omega : (wh < 0 ∨ 3 < wh) ∨ wh = 0 ∨ wh = 1 ∨ wh = 2 ∨ wh = 3) with zc1 | zc1 | zc1 | zc1 | zc1
  · refine j_tableOut (tgt := 68) hc dX6_share_1 ⟨by omega, by omega⟩ zc1 (by decide) ?_
    refine j_iconst hc dX6_share_68 ?_
    exact j_iret hc he dX6_share_69 rfl (by omega) (by omega) ⟨vI_eq (by unfold shS; first | (rw [if_pos (by omega), if_pos (by omega)]; done) | (rw [if_pos (by omega), if_neg (by omega)]; done) | (rw [if_neg (by omega), if_pos (by omega), if_pos (by omega)]; done) | (rw [if_neg (by omega), if_pos (by omega), if_neg (by omega)]; done) | (rw [if_neg (by omega), if_neg (by omega), if_pos (by omega), if_pos (by omega)]; done) | (rw [if_neg (by omega), if_neg (by omega), if_pos (by omega), if_neg (by omega)]; done) | (rw [if_neg (by omega), if_neg (by omega), if_neg (by omega), if_pos (by omega)]; done) | (rw [if_neg (by omega), if_neg (by omega), if_neg (by omega), if_neg (by omega)]; done)), rfl⟩
  · refine j_tableIn (tgt := 32) (off := 31) hc dX6_share_1 ⟨by omega, by omega⟩ (by omega) (by omega) (by rw [zc1]; rfl) (by decide) ?_
    refine j_iload_n hc dX6_share_32 rfl ?_
    refine j_iload_n hc dX6_share_33 rfl ?_
    refine j_icmp_gt (tgt := 41) hc dX6_share_34 (by decide) ha hx (fun zc2 => ?_) (fun zc2 => ?_)
    · refine j_iconst hc dX6_share_41 ?_
      exact j_iret hc he dX6_share_42 rfl (by omega) (by omega) ⟨vI_eq (by unfold shS; first | (rw [if_pos (by omega), if_pos (by omega)]; done) | (rw [if_pos (by omega), if_neg (by omega)]; done) | (rw [if_neg (by omega), if_pos (by omega), if_pos (by omega)]; done) | (rw [if_neg (by omega), if_pos (by omega), if_neg (by omega)]; done) | (rw [if_neg (by omega), if_neg (by omega), if_pos (by omega), if_pos (by omega)]; done) | (rw [if_neg (by omega), if_neg (by omega), if_pos (by omega), if_neg (by omega)]; done) | (rw [if_neg (by omega), if_neg (by omega), if_neg (by omega), if_pos (by omega)]; done) | (rw [if_neg (by omega), if_neg (by omega), if_neg (by omega), if_neg (by omega)]; done)), rfl⟩
    · refine j_iconst hc dX6_share_37 ?_
      refine j_goto (tgt := 42) hc dX6_share_38 (by decide) ?_
      exact j_iret hc he dX6_share_42 rfl (by omega) (by omega) ⟨vI_eq (by unfold shS; first | (rw [if_pos (by omega), if_pos (by omega)]; done) | (rw [if_pos (by omega), if_neg (by omega)]; done) | (rw [if_neg (by omega), if_pos (by omega), if_pos (by omega)]; done) | (rw [if_neg (by omega), if_pos (by omega), if_neg (by omega)]; done) | (rw [if_neg (by omega), if_neg (by omega), if_pos (by omega), if_pos (by omega)]; done) | (rw [if_neg (by omega), if_neg (by omega), if_pos (by omega), if_neg (by omega)]; done) | (rw [if_neg (by omega), if_neg (by omega), if_neg (by omega), if_pos (by omega)]; done) | (rw [if_neg (by omega), if_neg (by omega), if_neg (by omega), if_neg (by omega)]; done)), rfl⟩
  · refine j_tableIn (tgt := 43) (off := 42) hc dX6_share_1 ⟨by omega, by omega⟩ (by omega) (by omega) (by rw [zc1]; rfl) (by decide) ?_
    refine j_iload_n hc dX6_share_43 rfl ?_
    refine j_if_ne (b := 0) (tgt := 51) hc dX6_share_44 (by decide) hk (fun zc3 => ?_) (fun zc3 => ?_)
    · refine j_iconst hc dX6_share_51 ?_
      exact j_iret hc he dX6_share_52 rfl (by omega) (by omega) ⟨vI_eq (by unfold shS; first | (rw [if_pos (by omega), if_pos (by omega)]; done) | (rw [if_pos (by omega), if_neg (by omega)]; done) | (rw [if_neg (by omega), if_pos (by omega), if_pos (by omega)]; done) | (rw [if_neg (by omega), if_pos (by omega), if_neg (by omega)]; done) | (rw [if_neg (by omega), if_neg (by omega), if_pos (by omega), if_pos (by omega)]; done) | (rw [if_neg (by omega), if_neg (by omega), if_pos (by omega), if_neg (by omega)]; done) | (rw [if_neg (by omega), if_neg (by omega), if_neg (by omega), if_pos (by omega)]; done) | (rw [if_neg (by omega), if_neg (by omega), if_neg (by omega), if_neg (by omega)]; done)), rfl⟩
    · refine j_iconst hc dX6_share_47 ?_
      refine j_goto (tgt := 52) hc dX6_share_48 (by decide) ?_
      exact j_iret hc he dX6_share_52 rfl (by omega) (by omega) ⟨vI_eq (by unfold shS; first | (rw [if_pos (by omega), if_pos (by omega)]; done) | (rw [if_pos (by omega), if_neg (by omega)]; done) | (rw [if_neg (by omega), if_pos (by omega), if_pos (by omega)]; done) | (rw [if_neg (by omega), if_pos (by omega), if_neg (by omega)]; done) | (rw [if_neg (by omega), if_neg (by omega), if_pos (by omega), if_pos (by omega)]; done) | (rw [if_neg (by omega), if_neg (by omega), if_pos (by omega), if_neg (by omega)]; done) | (rw [if_neg (by omega), if_neg (by omega), if_neg (by omega), if_pos (by omega)]; done) | (rw [if_neg (by omega), if_neg (by omega), if_neg (by omega), if_neg (by omega)]; done)), rfl⟩
  · refine j_tableIn (tgt := 53) (off := 52) hc dX6_share_1 ⟨by omega, by omega⟩ (by omega) (by omega) (by rw [zc1]; rfl) (by decide) ?_
    refine j_iload hc dX6_share_53 rfl ?_
    refine j_iload_n hc dX6_share_55 rfl ?_
    refine j_icmp_lt (tgt := 63) hc dX6_share_56 (by decide) hp hx (fun zc4 => ?_) (fun zc4 => ?_)
    · refine j_iconst hc dX6_share_63 ?_
      exact j_iret hc he dX6_share_64 rfl (by omega) (by omega) ⟨vI_eq (by unfold shS; first | (rw [if_pos (by omega), if_pos (by omega)]; done) | (rw [if_pos (by omega), if_neg (by omega)]; done) | (rw [if_neg (by omega), if_pos (by omega), if_pos (by omega)]; done) | (rw [if_neg (by omega), if_pos (by omega), if_neg (by omega)]; done) | (rw [if_neg (by omega), if_neg (by omega), if_pos (by omega), if_pos (by omega)]; done) | (rw [if_neg (by omega), if_neg (by omega), if_pos (by omega), if_neg (by omega)]; done) | (rw [if_neg (by omega), if_neg (by omega), if_neg (by omega), if_pos (by omega)]; done) | (rw [if_neg (by omega), if_neg (by omega), if_neg (by omega), if_neg (by omega)]; done)), rfl⟩
    · refine j_iconst hc dX6_share_59 ?_
      refine j_goto (tgt := 64) hc dX6_share_60 (by decide) ?_
      exact j_iret hc he dX6_share_64 rfl (by omega) (by omega) ⟨vI_eq (by unfold shS; first | (rw [if_pos (by omega), if_pos (by omega)]; done) | (rw [if_pos (by omega), if_neg (by omega)]; done) | (rw [if_neg (by omega), if_pos (by omega), if_pos (by omega)]; done) | (rw [if_neg (by omega), if_pos (by omega), if_neg (by omega)]; done) | (rw [if_neg (by omega), if_neg (by omega), if_pos (by omega), if_pos (by omega)]; done) | (rw [if_neg (by omega), if_neg (by omega), if_pos (by omega), if_neg (by omega)]; done) | (rw [if_neg (by omega), if_neg (by omega), if_neg (by omega), if_pos (by omega)]; done) | (rw [if_neg (by omega), if_neg (by omega), if_neg (by omega), if_neg (by omega)]; done)), rfl⟩
  · refine j_tableIn (tgt := 65) (off := 64) hc dX6_share_1 ⟨by omega, by omega⟩ (by omega) (by omega) (by rw [zc1]; rfl) (by decide) ?_
    refine j_iload hc dX6_share_65 rfl ?_
    exact j_iret hc he dX6_share_67 rfl (by omega) (by omega) ⟨vI_eq (by unfold shS; first | (rw [if_pos (by omega), if_pos (by omega)]; done) | (rw [if_pos (by omega), if_neg (by omega)]; done) | (rw [if_neg (by omega), if_pos (by omega), if_pos (by omega)]; done) | (rw [if_neg (by omega), if_pos (by omega), if_neg (by omega)]; done) | (rw [if_neg (by omega), if_neg (by omega), if_pos (by omega), if_pos (by omega)]; done) | (rw [if_neg (by omega), if_neg (by omega), if_pos (by omega), if_neg (by omega)]; done) | (rw [if_neg (by omega), if_neg (by omega), if_neg (by omega), if_pos (by omega)]; done) | (rw [if_neg (by omega), if_neg (by omega), if_neg (by omega), if_neg (by omega)]; done)), rfl⟩
set_option maxRecDepth 100000 in
set_option maxHeartbeats 4000000 in
theorem lp_X6_weigh {k : WC} {d : Nat} {w : MC} {h : AH} {l : Int} {D : LaS} {E : LaY} {pl : Int → Option Nm} {i sr cs : Int} {wf : Option Nm} {gn : Nm} {kf : Int → Int} {kq : Int → Int → Int} {b n s wh x : Int} {f : Int → Int} (hd : 4 ≤ d) (hL : LandAt h l D E pl) (hD : LOK D) (zp50 : h (50, i) = some (oO 2 (pF i l sr cs wf gn))) (zp51 : h (51, i) = some (oI ((lSe D).toNat * 492) kf)) (hX : SprAt h b f) (hf : ∀ a : Int, 0 ≤ a → a ≤ 40 → 0 ≤ f a ∧ f a ≤ 14183735261958144) (hkq : ∀ s a : Int, 0 ≤ s → s < lSe D → 0 ≤ a → a ≤ 40 → kf (ceS n s + a) = kq s a) (hkb : kqOK D kq) (hn1 : 1 ≤ n) (hn : n ≤ 12) (hs0 : 0 ≤ s) (hs1 : s < lSe D) (hsr0 : 0 ≤ sr) (hsr1 : sr ≤ 4) (hw0 : 0 ≤ wh) (hw1 : wh ≤ 4) (hx : inI x)  (hc : Cx w k d 0 0 mdX6_weigh) (he : Ends w 0 0 (pr (vL (wgN D sr kq s wh x f 41)) h)) : ∀ (zm : Nat) (a : Nat) (c : Int) (z9 : Option AV), 41 - a = zm → a ≤ 41 → c = wgN D sr kq s wh x f a → J w 0 0 6 [some (vR (16, 0)), some (vR (50, i)), some (vI n), some (vI s), some (vI wh), some (vI x), some (vL c), none, some (vI a), z9] [] h := by
  obtain ⟨zb, zx1, zx2, g, zx3⟩ := id hX
  intro zm
  induction zm using Nat.strongRecOn with
  | _ zm ih =>
    intro a c z9 hm ha hcc
    refine j_iload hc dX6_weigh_6 rfl ?_
    refine j_bipush hc dX6_weigh_8 (by decide) ?_
    refine j_icmp_gt (tgt := 75) hc dX6_weigh_10 (by decide) ⟨by omega, by omega⟩ ⟨by omega, by omega⟩ (fun zc1 => ?_) (fun zc1 => ?_)
    · refine j_lload hc dX6_weigh_75 rfl ?_
      exact j_lret hc he dX6_weigh_77 rfl (by omega) (by omega) ⟨vL_eq (by rw [hcc]; congr 1; omega), rfl⟩
    · have zfa := hf a (by omega) (by omega)
      have zk := hkb s a hs0 hs1 (by omega) (by omega)
      have zkk := hkq s a hs0 hs1 (by omega) (by omega)
      have zpo := poS_b hD sr (a - kq s a)
      have zsh := shS_b (w := wh) (x := x) (a := a) (k := kq s a) zpo.1 zpo.2
      refine j_aload_n hc dX6_weigh_13 rfl ?_
      refine j_get hc dX6_weigh_14 fX6_9 zx1 rfl ?_
      refine j_iload hc dX6_weigh_17 rfl ?_
      refine j_lald hc dX6_weigh_19 zx2 (by omega) (by omega) ?_
      refine j_lconst (x := 0) hc dX6_weigh_20 (by decide) ?_
      refine j_lcmp hc dX6_weigh_21 ⟨by omega, by omega⟩ ⟨by omega, by omega⟩ ?_
      refine j_if_eq (b := 0) (tgt := 69) hc dX6_weigh_22 (by decide) (by unfold lc; split <;> (try split) <;> exact ⟨by omega, by omega⟩) (fun zc2 => ?_) (fun zc2 => ?_)
      · have zfz : f a = 0 := by unfold lc at zc2; split at zc2 <;> (try split at zc2) <;> omega
        refine j_iinc (L' := [_, _, _, _, _, _, _, _, _, _]) hc dX6_weigh_69 rfl (Nat.le_of_ble_eq_true rfl) rfl ?_
        refine j_goto (tgt := 6) hc dX6_weigh_72 (by decide) ?_
        exact ih _ (by omega) (a + 1) _ _ rfl (by omega) (by simp only [wgN]; first | rw [if_pos zfz, hcc] | rw [if_neg zfz, hcc])
      · have zfz : f a ≠ 0 := by unfold lc at zc2; split at zc2 <;> (try split at zc2) <;> omega
        refine j_aload_n hc dX6_weigh_25 rfl ?_
        refine j_iload_n hc dX6_weigh_26 rfl ?_
        refine j_iload_n hc dX6_weigh_27 rfl ?_
        refine j_iload hc dX6_weigh_28 rfl ?_
        refine j_callV (d' := d - 1) hc dX6_weigh_30 vX6_36 zp50 (ev_X2_keptAt (by omega) hL hD zp50 zp51 hn1 hn hs0 hs1 (by omega) (by omega)) rfl (by omega) (by omega) (by omega) rfl rfl (Nat.le_of_ble_eq_true rfl) (ret1 ?_)
        rw [zkk]
        refine j_istore (L' := [_, _, _, _, _, _, _, _, _, _]) hc dX6_weigh_33 (Nat.le_of_ble_eq_true rfl) rfl ?_
        refine j_lload hc dX6_weigh_35 rfl ?_
        refine j_aload_n hc dX6_weigh_37 rfl ?_
        refine j_get hc dX6_weigh_38 fX6_9 zx1 rfl ?_
        refine j_iload hc dX6_weigh_41 rfl ?_
        refine j_lald hc dX6_weigh_43 zx2 (by omega) (by omega) ?_
        refine j_iload hc dX6_weigh_44 rfl ?_
        refine j_iload hc dX6_weigh_46 rfl ?_
        refine j_iload hc dX6_weigh_48 rfl ?_
        refine j_iload hc dX6_weigh_50 rfl ?_
        refine j_aload_n hc dX6_weigh_52 rfl ?_
        refine j_iload hc dX6_weigh_53 rfl ?_
        refine j_iload hc dX6_weigh_55 rfl ?_
        refine j_isub hc dX6_weigh_57 ?_
        refine j_callV (d' := d - 1) hc dX6_weigh_58 vX6_53 zp50 (ev_X2_priceOf (by omega) hL hD zp50 ⟨by omega, by omega⟩ hsr0 hsr1) rfl (by omega) (by omega) (by omega) rfl rfl (Nat.le_of_ble_eq_true rfl) (ret1 ?_)
        refine j_callS (d' := d - 1) hc dX6_weigh_61 sX6_56 (ev_X6_share (by omega) hw0 hw1 hx ⟨by omega, by omega⟩ ⟨by omega, by omega⟩ ⟨by omega, by omega⟩) rfl (by omega) (by omega) (by omega) rfl rfl (Nat.le_of_ble_eq_true rfl) (ret1 ?_)
        refine j_i2l hc dX6_weigh_64 ⟨by omega, by omega⟩ ?_
        refine j_lmul hc dX6_weigh_65 ?_
        refine j_ladd hc dX6_weigh_66 ?_
        refine j_lstore (L' := [_, _, _, _, _, _, _, _, _, _]) hc dX6_weigh_67 (Nat.le_of_ble_eq_true rfl) rfl ?_
        refine j_iinc (L' := [_, _, _, _, _, _, _, _, _, _]) hc dX6_weigh_69 rfl (Nat.le_of_ble_eq_true rfl) rfl ?_
        refine j_goto (tgt := 6) hc dX6_weigh_72 (by decide) ?_
        exact ih _ (by omega) (a + 1) _ _ rfl (by omega) (by simp only [wgN]; first | rw [if_pos zfz, hcc] | rw [if_neg zfz, hcc])
set_option maxRecDepth 100000 in
set_option maxHeartbeats 4000000 in
theorem ev_X6_weigh {k : WC} {d : Nat} {h : AH} {l : Int} {D : LaS} {E : LaY} {pl : Int → Option Nm} {i sr cs : Int} {wf : Option Nm} {gn : Nm} {kf : Int → Int} {kq : Int → Int → Int} {b n s wh x : Int} {f : Int → Int} (hd : 4 ≤ d) (hL : LandAt h l D E pl) (hD : LOK D) (zp50 : h (50, i) = some (oO 2 (pF i l sr cs wf gn))) (zp51 : h (51, i) = some (oI ((lSe D).toNat * 492) kf)) (hX : SprAt h b f) (hf : ∀ a : Int, 0 ≤ a → a ≤ 40 → 0 ≤ f a ∧ f a ≤ 14183735261958144) (hkq : ∀ s a : Int, 0 ≤ s → s < lSe D → 0 ≤ a → a ≤ 40 → kf (ceS n s + a) = kq s a) (hkb : kqOK D kq) (hn1 : 1 ≤ n) (hn : n ≤ 12) (hs0 : 0 ≤ s) (hs1 : s < lSe D) (hsr0 : 0 ≤ sr) (hsr1 : sr ≤ 4) (hw0 : 0 ≤ wh) (hw1 : wh ≤ 4) (hx : inI x)  : Ev k d mdX6_weigh h [vR (16, 0), vR (50, i), vI n, vI s, vI wh, vI x] 0 0 (pr (vL (wgN D sr kq s wh x f 41)) h) := by
  obtain ⟨zb, zx1, zx2, g, zx3⟩ := id hX
  refine Ev.mk (by decide +kernel) [_, _, _, _, _, _, _, _, _, _] rfl (Nat.le_of_ble_eq_true rfl) (fun w hc he => ?_)
  refine j_lconst (x := 0) hc dX6_weigh_0 (by decide) ?_
  refine j_lstore (L' := [_, _, _, _, _, _, _, _, _, _]) hc dX6_weigh_1 (Nat.le_of_ble_eq_true rfl) rfl ?_
  refine j_iconst hc dX6_weigh_3 ?_
  refine j_istore (L' := [_, _, _, _, _, _, _, _, _, _]) hc dX6_weigh_4 (Nat.le_of_ble_eq_true rfl) rfl ?_
  exact lp_X6_weigh hd hL hD zp50 zp51 hX hf hkq hkb hn1 hn hs0 hs1 hsr0 hsr1 hw0 hw1 hx hc he _ 0 _ _ rfl (by omega) rfl
set_option maxRecDepth 100000 in
set_option maxHeartbeats 4000000 in
theorem lp_X6_step2 {k : WC} {d : Nat} {w : MC} {h : AH} {l : Int} {D : LaS} {E : LaY} {pl : Int → Option Nm} {i sr cs : Int} {wf : Option Nm} {gn : Nm} {kf : Int → Int} {kq : Int → Int → Int} {b n s : Int} {f g0 : Int → Int} {a : Nat} (hd : 3 ≤ d) (hD : LOK D) (zb : b = 0 ∨ b = 1) (hf : ∀ a : Int, 0 ≤ a → a ≤ 40 → 0 ≤ f a ∧ f a ≤ 14183735261958144) (hkq : ∀ s a : Int, 0 ≤ s → s < lSe D → 0 ≤ a → a ≤ 40 → kf (ceS n s + a) = kq s a) (hkb : kqOK D kq) (hn1 : 1 ≤ n) (hn : n ≤ 12) (hs0 : 0 ≤ s) (hs1 : s < lSe D) (ha : a ≤ 40)  (hc : Cx w k d 0 0 mdX6_step) (kont : ∀ (h' : AH) (z7 z8 z9 : Option AV), LandAt h' l D E pl → h' (50, i) = some (oO 2 (pF i l sr cs wf gn)) → h' (51, i) = some (oI ((lSe D).toNat * 492) kf) → h' (16, 0) = some (oO 5 [vR (17, b), vR (17, 1 - b)]) → h' (17, b) = some (oL 41 f) → Fr isSpr h h' → h' (17, 1 - b) = some (oL 41 (sp2 D (nxS D s) (leS D (kq s a)) (f a) (sp1 D kq s f g0 a) (lHv D (nxS D s)).toNat)) → J w 0 0 126 [some (vR (16, 0)), some (vR (50, i)), some (vI n), some (vI s), some (vR (30, l)), some (vI (nxS D s)), some (vI a), z7, z8, z9] [] h') : ∀ (zm : Nat) (j : Nat) (h' : AH) (z9 : Option AV), (lHv D (nxS D s)).toNat - j = zm → j ≤ (lHv D (nxS D s)).toNat → LandAt h' l D E pl → h' (50, i) = some (oO 2 (pF i l sr cs wf gn)) → h' (51, i) = some (oI ((lSe D).toNat * 492) kf) → h' (16, 0) = some (oO 5 [vR (17, b), vR (17, 1 - b)]) → h' (17, b) = some (oL 41 f) → Fr isSpr h h' → h' (17, 1 - b) = some (oL 41 (sp2 D (nxS D s) (leS D (kq s a)) (f a) (sp1 D kq s f g0 a) j)) → J w 0 0 62 [some (vR (16, 0)), some (vR (50, i)), some (vI n), some (vI s), some (vR (30, l)), some (vI (nxS D s)), some (vI a), some (vI (leS D (kq s a))), some (vI j), z9] [] h' := by
  intro zm
  induction zm using Nat.strongRecOn with
  | _ zm ih =>
    intro j h' z9 hm hj hL zp50 zp51 zx1 zx2 hfr zx3
    have zn := nxS_b hD hs0
    obtain ⟨hv1, hv2, -, -, -, hv3⟩ := hD.2.2.2.2.2.2.2.2.2.2.2.2 (nxS D s) zn.1 zn.2
    have d2 := hD.2.1
    have zbb : b ≠ 1 - b := by omega
    have zk := hkb s a hs0 hs1 (by omega) (by omega)
    have zl := leS_b hD zk.1
    refine j_iload hc dX6_step_62 rfl ?_
    refine j_aload hc dX6_step_64 rfl ?_
    refine j_get hc dX6_step_66 fX6_43 hL.1 rfl ?_
    refine j_iload hc dX6_step_69 rfl ?_
    refine j_iald hc dX6_step_71 hL.2.2.1 (by omega) (by omega) ?_
    refine j_icmp_ge (tgt := 126) hc dX6_step_72 (by decide) ⟨by omega, by omega⟩ ⟨by omega, by omega⟩ (fun zc1 => ?_) (fun zc1 => ?_)
    · rw [show (lHv D (nxS D s)).toNat = j by omega] at kont
      exact kont _ _ _ _ hL zp50 zp51 zx1 zx2 hfr zx3
    · have zsk := lSk_in hD zn.1 zn.2 (i := j) (by omega)
      have zwt := hv3 j (by omega) (by omega)
      rw [Int.mul_comm 4 (nxS D s)] at zwt
      refine j_iload hc dX6_step_75 rfl ?_
      refine j_iconst hc dX6_step_77 ?_
      refine j_imul hc dX6_step_78 ?_
      refine j_iload hc dX6_step_79 rfl ?_
      refine j_iadd hc dX6_step_81 ?_
      refine j_istore (L' := [_, _, _, _, _, _, _, _, _, _]) hc dX6_step_82 (Nat.le_of_ble_eq_true rfl) rfl ?_
      refine j_aload_n hc dX6_step_84 rfl ?_
      refine j_get hc dX6_step_85 fX6_15 zx1 rfl ?_
      refine j_iload hc dX6_step_88 rfl ?_
      refine j_aload hc dX6_step_90 rfl ?_
      refine j_get hc dX6_step_92 fX6_47 hL.1 rfl ?_
      refine j_iload hc dX6_step_95 rfl ?_
      refine j_iald hc dX6_step_97 hL.2.2.2.1 (by omega) (by omega) ?_
      refine j_iadd hc dX6_step_98 ?_
      refine j_dup2 hc dX6_step_99 rfl rfl ?_
      refine j_lald hc dX6_step_100 zx3 (by omega) (by omega) ?_
      refine j_aload_n hc dX6_step_101 rfl ?_
      refine j_get hc dX6_step_102 fX6_9 zx1 rfl ?_
      refine j_iload hc dX6_step_105 rfl ?_
      refine j_lald hc dX6_step_107 zx2 (by omega) (by omega) ?_
      refine j_aload hc dX6_step_108 rfl ?_
      refine j_get hc dX6_step_110 fX6_50 hL.1 rfl ?_
      refine j_iload hc dX6_step_113 rfl ?_
      refine j_iald hc dX6_step_115 hL.2.2.2.2.1 (by omega) (by omega) ?_
      refine j_i2l hc dX6_step_116 ⟨by omega, by omega⟩ ?_
      refine j_lmul hc dX6_step_117 ?_
      refine j_ladd hc dX6_step_118 ?_
      refine j_last hc dX6_step_119 zx3 (by omega) (by omega) ?_
      generalize ezh1 : up _ _ _ = zh1
      have zzland_zh1 := LandAt.mv ezh1 (by simp) hL
      have zP_zh1 := (congrFun ezh1 _).symm.trans ((up_ne (by simp)).trans zp50)
      have zP51_zh1 := (congrFun ezh1 _).symm.trans ((up_ne (by simp)).trans zp51)
      have zX_zh1 := (congrFun ezh1 _).symm.trans ((up_ne (by simp)).trans zx1)
      have zXH_zh1 := (congrFun ezh1 _).symm.trans ((up_ne (by simp; omega)).trans zx2)
      have zXB_zh1 := (congrFun ezh1 _).symm.trans (up_same _ _ _)
      refine j_iinc (L' := [_, _, _, _, _, _, _, _, _, _]) hc dX6_step_120 rfl (Nat.le_of_ble_eq_true rfl) rfl ?_
      refine j_goto (tgt := 62) hc dX6_step_123 (by decide) ?_
      exact ih _ (by omega) (j + 1) _ _ rfl (by omega) zzland_zh1 zP_zh1 zP51_zh1 zX_zh1 zXH_zh1 (by rw [← ezh1]; exact hfr.push (Or.inr rfl)) zXB_zh1
set_option maxRecDepth 100000 in
set_option maxHeartbeats 4000000 in
theorem lp_X6_step1 {k : WC} {d : Nat} {w : MC} {h : AH} {l : Int} {D : LaS} {E : LaY} {pl : Int → Option Nm} {i sr cs : Int} {wf : Option Nm} {gn : Nm} {kf : Int → Int} {kq : Int → Int → Int} {b n s : Int} {f g0 : Int → Int} (hd : 3 ≤ d) (hD : LOK D) (zb : b = 0 ∨ b = 1) (hf : ∀ a : Int, 0 ≤ a → a ≤ 40 → 0 ≤ f a ∧ f a ≤ 14183735261958144) (hkq : ∀ s a : Int, 0 ≤ s → s < lSe D → 0 ≤ a → a ≤ 40 → kf (ceS n s + a) = kq s a) (hkb : kqOK D kq) (hn1 : 1 ≤ n) (hn : n ≤ 12) (hs0 : 0 ≤ s) (hs1 : s < lSe D)  (hc : Cx w k d 0 0 mdX6_step) (he : Ends w 0 0 (pn fun h' => SprAt h' (1 - b) (sp1 D kq s f g0 41) ∧ Fr isSpr h h')) : ∀ (zm : Nat) (a : Nat) (h' : AH) (z7 z8 z9 : Option AV), 41 - a = zm → a ≤ 41 → LandAt h' l D E pl → h' (50, i) = some (oO 2 (pF i l sr cs wf gn)) → h' (51, i) = some (oI ((lSe D).toNat * 492) kf) → h' (16, 0) = some (oO 5 [vR (17, b), vR (17, 1 - b)]) → h' (17, b) = some (oL 41 f) → Fr isSpr h h' → h' (17, 1 - b) = some (oL 41 (sp1 D kq s f g0 a)) → J w 0 0 25 [some (vR (16, 0)), some (vR (50, i)), some (vI n), some (vI s), some (vR (30, l)), some (vI (nxS D s)), some (vI a), z7, z8, z9] [] h' := by
  intro zm
  induction zm using Nat.strongRecOn with
  | _ zm ih =>
    intro a h' z7 z8 z9 hm ha hL zp50 zp51 zx1 zx2 hfr zx3
    have zn := nxS_b hD hs0
    obtain ⟨hv1, hv2, -, -, -, hv3⟩ := hD.2.2.2.2.2.2.2.2.2.2.2.2 (nxS D s) zn.1 zn.2
    have d2 := hD.2.1
    have zbb : b ≠ 1 - b := by omega
    refine j_iload hc dX6_step_25 rfl ?_
    refine j_bipush hc dX6_step_27 (by decide) ?_
    refine j_icmp_gt (tgt := 132) hc dX6_step_29 (by decide) ⟨by omega, by omega⟩ ⟨by omega, by omega⟩ (fun zc1 => ?_) (fun zc1 => ?_)
    · refine j_aload_n hc dX6_step_132 rfl ?_
      refine j_get hc dX6_step_133 fX6_9 zx1 rfl ?_
      refine j_astore (L' := [_, _, _, _, _, _, _, _, _, _]) hc dX6_step_136 (Nat.le_of_ble_eq_true rfl) rfl ?_
      refine j_aload_n hc dX6_step_138 rfl ?_
      refine j_aload_n hc dX6_step_139 rfl ?_
      refine j_get hc dX6_step_140 fX6_15 zx1 rfl ?_
      refine j_put (fs' := [_, _]) hc dX6_step_143 pX6_9 zx1 rfl rfl ?_
      generalize ezh1 : up _ _ _ = zh1
      have zzland_zh1 := LandAt.mv ezh1 (by simp) hL
      have zP_zh1 := (congrFun ezh1 _).symm.trans ((up_ne (by simp)).trans zp50)
      have zP51_zh1 := (congrFun ezh1 _).symm.trans ((up_ne (by simp)).trans zp51)
      have zX_zh1 := (congrFun ezh1 _).symm.trans (up_same _ _ _)
      have zXH_zh1 := (congrFun ezh1 _).symm.trans ((up_ne (by simp)).trans zx2)
      have zXB_zh1 := (congrFun ezh1 _).symm.trans ((up_ne (by simp)).trans zx3)
      refine j_aload_n hc dX6_step_146 rfl ?_
      refine j_aload hc dX6_step_147 rfl ?_
      refine j_put (fs' := [_, _]) hc dX6_step_149 pX6_15 zX_zh1 rfl rfl ?_
      generalize ezh2 : up _ _ _ = zh2
      have zzland_zh2 := LandAt.mv ezh2 (by simp) zzland_zh1
      have zP_zh2 := (congrFun ezh2 _).symm.trans ((up_ne (by simp)).trans zP_zh1)
      have zP51_zh2 := (congrFun ezh2 _).symm.trans ((up_ne (by simp)).trans zP51_zh1)
      have zX_zh2 := (congrFun ezh2 _).symm.trans (up_same _ _ _)
      have zXH_zh2 := (congrFun ezh2 _).symm.trans ((up_ne (by simp)).trans zXH_zh1)
      have zXB_zh2 := (congrFun ezh2 _).symm.trans ((up_ne (by simp)).trans zXB_zh1)
      exact j_vret hc he dX6_step_152 rfl (by omega) (by omega) (by (obtain rfl : a = 41 := by omega); exact ⟨rfl, ⟨by omega, zX_zh2.trans (by rw [show 1 - (1 - b) = b by omega]), zXB_zh2, f, by rw [show 1 - (1 - b) = b by omega]; exact zXH_zh2⟩, by rw [← ezh2, ← ezh1]; exact (hfr.push (Or.inl rfl)).push (Or.inl rfl)⟩)
    · have zfa := hf a (by omega) (by omega)
      have zk := hkb s a hs0 hs1 (by omega) (by omega)
      have zkk := hkq s a hs0 hs1 (by omega) (by omega)
      refine j_aload_n hc dX6_step_32 rfl ?_
      refine j_get hc dX6_step_33 fX6_9 zx1 rfl ?_
      refine j_iload hc dX6_step_36 rfl ?_
      refine j_lald hc dX6_step_38 zx2 (by omega) (by omega) ?_
      refine j_lconst (x := 0) hc dX6_step_39 (by decide) ?_
      refine j_lcmp hc dX6_step_40 ⟨by omega, by omega⟩ ⟨by omega, by omega⟩ ?_
      refine j_if_eq (b := 0) (tgt := 126) hc dX6_step_41 (by decide) (by unfold lc; split <;> (try split) <;> exact ⟨by omega, by omega⟩) (fun zc2 => ?_) (fun zc2 => ?_)
      · have zfz : f a = 0 := by unfold lc at zc2; split at zc2 <;> (try split at zc2) <;> omega
        refine j_iinc (L' := [_, _, _, _, _, _, _, _, _, _]) hc dX6_step_126 rfl (Nat.le_of_ble_eq_true rfl) rfl ?_
        refine j_goto (tgt := 25) hc dX6_step_129 (by decide) ?_
        exact ih _ (by omega) (a + 1) _ _ _ _ rfl (by omega) hL zp50 zp51 zx1 zx2 hfr (zx3.trans (by simp only [sp1]; first | rw [if_pos zfz] | rw [if_neg zfz]))
      · have zfz : f a ≠ 0 := by unfold lc at zc2; split at zc2 <;> (try split at zc2) <;> omega
        refine j_aload hc dX6_step_44 rfl ?_
        refine j_aload_n hc dX6_step_46 rfl ?_
        refine j_iload_n hc dX6_step_47 rfl ?_
        refine j_iload_n hc dX6_step_48 rfl ?_
        refine j_iload hc dX6_step_49 rfl ?_
        refine j_callV (d' := d - 1) hc dX6_step_51 vX6_36 zp50 (ev_X2_keptAt (by omega) hL hD zp50 zp51 hn1 hn hs0 hs1 (by omega) (by omega)) rfl (by omega) (by omega) (by omega) rfl rfl (Nat.le_of_ble_eq_true rfl) (ret1 ?_)
        rw [zkk]
        refine j_callV (d' := d - 1) hc dX6_step_54 vX6_40 hL.1 (ev_X0_leftOf (by omega) hL hD (by omega) (by omega)) rfl (by omega) (by omega) (by omega) rfl rfl (Nat.le_of_ble_eq_true rfl) (ret1 ?_)
        refine j_istore (L' := [_, _, _, _, _, _, _, _, _, _]) hc dX6_step_57 (Nat.le_of_ble_eq_true rfl) rfl ?_
        refine j_iconst hc dX6_step_59 ?_
        refine j_istore (L' := [_, _, _, _, _, _, _, _, _, _]) hc dX6_step_60 (Nat.le_of_ble_eq_true rfl) rfl ?_
        refine lp_X6_step2 (a := a) hd hD zb hf hkq hkb hn1 hn hs0 hs1 (by omega) hc (fun h2 z7 z8 z9 hL zp50 zp51 zx1 zx2 hfr zx3 => ?_) _ 0 _ _ rfl (by omega) hL zp50 zp51 zx1 zx2 hfr zx3
        refine j_iinc (L' := [_, _, _, _, _, _, _, _, _, _]) hc dX6_step_126 rfl (Nat.le_of_ble_eq_true rfl) rfl ?_
        refine j_goto (tgt := 25) hc dX6_step_129 (by decide) ?_
        exact ih _ (by omega) (a + 1) _ _ _ _ rfl (by omega) hL zp50 zp51 zx1 zx2 hfr (zx3.trans (by simp only [sp1]; first | rw [if_pos zfz] | rw [if_neg zfz]))
set_option maxRecDepth 100000 in
set_option maxHeartbeats 4000000 in
theorem ev_X6_step {k : WC} {d : Nat} {h : AH} {l : Int} {D : LaS} {E : LaY} {pl : Int → Option Nm} {i sr cs : Int} {wf : Option Nm} {gn : Nm} {kf : Int → Int} {kq : Int → Int → Int} {b n s : Int} {f : Int → Int} (hd : 3 ≤ d) (hL : LandAt h l D E pl) (hD : LOK D) (zp50 : h (50, i) = some (oO 2 (pF i l sr cs wf gn))) (zp51 : h (51, i) = some (oI ((lSe D).toNat * 492) kf)) (hX : SprAt h b f) (hf : ∀ a : Int, 0 ≤ a → a ≤ 40 → 0 ≤ f a ∧ f a ≤ 14183735261958144) (hkq : ∀ s a : Int, 0 ≤ s → s < lSe D → 0 ≤ a → a ≤ 40 → kf (ceS n s + a) = kq s a) (hkb : kqOK D kq) (hn1 : 1 ≤ n) (hn : n ≤ 12) (hs0 : 0 ≤ s) (hs1 : s < lSe D)  : Ev k d mdX6_step h [vR (16, 0), vR (50, i), vI n, vI s] 0 0 (pn fun h' => ∃ g0 : Int → Int, (∀ x : Int, 0 ≤ x → x ≤ 40 → g0 x = 0) ∧ SprAt h' (1 - b) (sp1 D kq s f g0 41) ∧ Fr isSpr h h') := by
  obtain ⟨zb, zx1, zx2, g, zx3⟩ := id hX
  have d2 := hD.2.1
  refine Ev.mk (by decide +kernel) [_, _, _, _, _, _, _, _, _, _] rfl (Nat.le_of_ble_eq_true rfl) (fun w hc he => ?_)
  refine j_aload_n hc dX6_step_0 rfl ?_
  refine j_get hc dX6_step_1 fX6_24 zp50 rfl ?_
  refine j_astore (L' := [_, _, _, _, _, _, _, _, _, _]) hc dX6_step_4 (Nat.le_of_ble_eq_true rfl) rfl ?_
  refine j_aload hc dX6_step_6 rfl ?_
  refine j_iload_n hc dX6_step_8 rfl ?_
  refine j_callV (d' := d - 1) hc dX6_step_9 vX6_30 hL.1 (ev_X0_seasonBehind (by omega) hL hD (by omega) (by omega)) rfl (by omega) (by omega) (by omega) rfl rfl (Nat.le_of_ble_eq_true rfl) (ret1 ?_)
  refine j_istore (L' := [_, _, _, _, _, _, _, _, _, _]) hc dX6_step_12 (Nat.le_of_ble_eq_true rfl) rfl ?_
  refine j_aload_n hc dX6_step_14 rfl ?_
  refine j_get hc dX6_step_15 fX6_15 zx1 rfl ?_
  refine j_lconst (x := 0) hc dX6_step_18 (by decide) ?_
  refine j_callS (d' := d - 1) hc dX6_step_19 sX6_18 (ev_J7_fill_d0a16 (by omega) (by omega) zx3) rfl (by omega) (by omega) (by omega) rfl rfl (Nat.le_of_ble_eq_true rfl) (retN fun zq19 zp19 => ?_)
  obtain ⟨⟨g19, zB19, zv19⟩, zF19⟩ := zp19
  have zzland_q19 := LandAt.fr (fun zj z0 z1 => zF19 (zj, l) (by first | (simp; done) | (simp; omega))) hL
  have zP_q19 := (zF19 _ (by first | (simp; done) | (simp; omega))).trans zp50
  have zP51_q19 := (zF19 _ (by first | (simp; done) | (simp; omega))).trans zp51
  have zX_q19 := (zF19 _ (by first | (simp; done) | (simp; omega))).trans zx1
  have zXH_q19 := (zF19 _ (by first | (simp; done) | (simp; omega))).trans zx2
  refine j_iconst hc dX6_step_22 ?_
  refine j_istore (L' := [_, _, _, _, _, _, _, _, _, _]) hc dX6_step_23 (Nat.le_of_ble_eq_true rfl) rfl ?_
  exact lp_X6_step1 hd hD zb hf hkq hkb hn1 hn hs0 hs1 hc (he.mono (fun r h2 zz => ⟨zz.1, g19, fun x z0 z1 => zv19 x z0 (by show x < 41; omega), zz.2.1, (zF19.mono (fun z zy => by rw [zy]; exact Or.inr rfl)).tr zz.2.2⟩)) _ 0 _ _ _ _ rfl (by omega) zzland_q19 zP_q19 zP51_q19 zX_q19 zXH_q19 (Fr.rf _ _) zB19
set_option maxRecDepth 100000 in
set_option maxHeartbeats 4000000 in
theorem ev_X6_init {k : WC} {d : Nat} {h : AH} (hd : 2 ≤ d) (zX : h (16, 0) = some (oO 5 [vN, vN])) (qa : h (17, 0) = none) (qb : h (17, 1) = none) : Ev k d mdX6_init h [vR (16, 0)] 2 82 (pn fun h' => SprAt h' 0 (fun _ => 0) ∧ Fr isSpr h h') := by
  refine Ev.mk (by decide +kernel) [_] rfl (Nat.le_of_ble_eq_true rfl) (fun w hc he => ?_)
  refine j_aload_n hc dX6_init_0 rfl ?_
  refine j_objInit hc dX6_init_1 voX6_3 vo_inst vo_code rfl (by omega) (Nat.le_of_ble_eq_true rfl) ?_
  refine j_aload_n hc dX6_init_4 rfl ?_
  refine j_bipush hc dX6_init_5 (by decide) ?_
  refine j_newL (nm := (17, 0)) hc dX6_init_7 ka_long qa (by omega) (by omega) (by omega) (by omega) ?_
  generalize ezh1 : up _ _ _ = zh1
  have zX_zh1 := (congrFun ezh1 _).symm.trans ((up_ne (by simp)).trans zX)
  have zFXB_zh1 := (congrFun ezh1 _).symm.trans ((up_ne (by simp)).trans qb)
  have zXH_zh1 := (congrFun ezh1 _).symm.trans (up_same _ _ _)
  refine j_put (fs' := [_, _]) hc dX6_init_9 pX6_9 zX_zh1 rfl rfl ?_
  generalize ezh2 : up _ _ _ = zh2
  have zX_zh2 := (congrFun ezh2 _).symm.trans (up_same _ _ _)
  have zFXB_zh2 := (congrFun ezh2 _).symm.trans ((up_ne (by simp)).trans zFXB_zh1)
  have zXH_zh2 := (congrFun ezh2 _).symm.trans ((up_ne (by simp)).trans zXH_zh1)
  refine j_aload_n hc dX6_init_12 rfl ?_
  refine j_bipush hc dX6_init_13 (by decide) ?_
  refine j_newL (nm := (17, 1)) hc dX6_init_15 ka_long zFXB_zh2 (by omega) (by omega) (by omega) (by omega) ?_
  generalize ezh3 : up _ _ _ = zh3
  have zX_zh3 := (congrFun ezh3 _).symm.trans ((up_ne (by simp)).trans zX_zh2)
  have zXH_zh3 := (congrFun ezh3 _).symm.trans ((up_ne (by simp)).trans zXH_zh2)
  have zXB_zh3 := (congrFun ezh3 _).symm.trans (up_same _ _ _)
  refine j_put (fs' := [_, _]) hc dX6_init_17 pX6_15 zX_zh3 rfl rfl ?_
  generalize ezh4 : up _ _ _ = zh4
  have zX_zh4 := (congrFun ezh4 _).symm.trans (up_same _ _ _)
  have zXH_zh4 := (congrFun ezh4 _).symm.trans ((up_ne (by simp)).trans zXH_zh3)
  have zXB_zh4 := (congrFun ezh4 _).symm.trans ((up_ne (by simp)).trans zXB_zh3)
  exact j_vret hc he dX6_init_20 rfl (by omega) (by omega) ⟨rfl, ⟨Or.inl rfl, zX_zh4, zXH_zh4, _, zXB_zh4⟩, by rw [← ezh4, ← ezh3, ← ezh2, ← ezh1]; exact ((((Fr.rf isSpr _).push (Or.inr rfl)).push (Or.inl rfl)).push (Or.inr rfl)).push (Or.inl rfl)⟩
