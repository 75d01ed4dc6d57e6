/-! ===== the reference: feed ===== -/
def w5S (a b c e f k : Int) : Int := if k < 4 then a else if k < 8 then b else if k < 12 then c else if k < 16 then e else f
def byK (a b c e f : Int) (k : Nat) : Int := byS (w5S a b c e f k) (24 - 8 * ((k : Int) % 4))
def nbK (a b c e f : Int) : Nat → Int
  | 0 => 0
  | k + 1 => nbK a b c e f k + (if byK a b c e f k = 0 then 0 else 1)
def puK (a b c e f : Int) (t : (Int → Int) × Int) : Nat → (Int → Int) × Int
  | 0 => t
  | k + 1 => pu1 (puK a b c e f t k) (byK a b c e f k)
theorem nbK_s (a b c e f : Int) (k : Nat) : nbK a b c e f (k + 1) = nbK a b c e f k + (if byK a b c e f k = 0 then 0 else 1) := rfl
theorem nbK_20 {a b c e f : Int} : nbK a b c e f 20 = nb5 a b c e f := by
  unfold nb5
  simp only [nbK, nbN, byK, w5S]
  simp
  omega
theorem puK_20 {a b c e f : Int} {S : BaS} : puK a b c e f (bB S, bN S) 20 = pu5 S a b c e f := by
  unfold pu5
  simp only [puK, puN, byK, w5S]
  simp
theorem nbK_lo {a b c e f : Int} (k : Nat) : ∀ m : Nat, nbK a b c e f k ≤ nbK a b c e f (k + m)
  | 0 => Int.le_refl _
  | m + 1 => by
    have := nbK_lo (a := a) (b := b) (c := c) (e := e) (f := f) k m
    show _ ≤ nbK a b c e f (k + m) + _
    split <;> omega
theorem nbK_b {a b c e f : Int} : ∀ k : Nat, 0 ≤ nbK a b c e f k ∧ nbK a b c e f k ≤ k
  | 0 => ⟨Int.le_refl _, Int.le_refl _⟩
  | k + 1 => by
    have := nbK_b (a := a) (b := b) (c := c) (e := e) (f := f) k
    simp only [nbK]
    split <;> omega
set_option maxRecDepth 100000 in
set_option maxHeartbeats 400000 in
theorem tl_X11_byteOf {k : WC} {d : Nat} {w : MC} {h : AH} {a b c e f x : Int} {j : Nat} (hj : j < 20) (hc : Cx w k d 0 0 mdX11_byteOf) (he : Ends w 0 0 (pr (vI (byS x (24 - 8 * ((j : Int) % 4)))) h)) : J w 0 0 47 [some (vI a), some (vI b), some (vI c), some (vI e), some (vI f), some (vI j), some (vI x)] [] h := by
  refine j_iload hc dX11_byteOf_47 rfl ?_
  refine j_bipush hc dX11_byteOf_49 (by decide) ?_
  refine j_bipush hc dX11_byteOf_51 (by decide) ?_
  refine j_iload hc dX11_byteOf_53 rfl ?_
  refine j_iconst hc dX11_byteOf_55 ?_
  refine j_irem hc dX11_byteOf_56 ⟨by omega, by omega⟩ ⟨by omega, by omega⟩ (by omega) ?_
  rw [Int.tdiv_eq_ediv_of_nonneg (by omega), show (j : Int) - (j : Int) / 4 * 4 = (j : Int) % 4 by omega]
  refine j_imul hc dX11_byteOf_57 ?_
  refine j_isub hc dX11_byteOf_58 ?_
  refine j_ishr (r := (Int32.ofInt x >>> (Int32.ofInt (24 - 8 * ((j : Int) % 4)) &&& 31)).toInt) hc dX11_byteOf_59 (Int32.ofInt_toInt _).symm ?_
  refine j_sipush hc dX11_byteOf_60 (by decide) ?_
  refine j_iand (r := byS x (24 - 8 * ((j : Int) % 4))) hc dX11_byteOf_63 (by unfold byS; rw [Int32.ofInt_toInt, Int32.ofInt_toInt]; rfl) ?_
  exact j_iret hc he dX11_byteOf_64 rfl (by omega) (by omega) ⟨rfl, rfl⟩
set_option maxRecDepth 100000 in
set_option maxHeartbeats 4000000 in
theorem ev_X11_byteOf {k : WC} {d : Nat} {h : AH} {a b c e f : Int} {j : Nat} (hd : 1 ≤ d) (hj : j < 20) : Ev k d mdX11_byteOf h [vI a, vI b, vI c, vI e, vI f, vI j] 0 0 (pr (vI (byK a b c e f j)) h) := by
  refine Ev.mk (by decide +kernel) [_, _, _, _, _, _, _] rfl (Nat.le_of_ble_eq_true rfl) (fun w hc he => ?_)
  refine j_iload hc dX11_byteOf_0 rfl ?_
  refine j_iconst hc dX11_byteOf_2 ?_
  refine j_icmp_ge (tgt := 10) hc dX11_byteOf_3 (by decide) ⟨by omega, by omega⟩ ⟨by omega, by omega⟩ (fun zc1 => ?_) (fun zc1 => ?_)
  · refine j_iload hc dX11_byteOf_10 rfl ?_
    refine j_bipush hc dX11_byteOf_12 (by decide) ?_
    refine j_icmp_ge (tgt := 21) hc dX11_byteOf_14 (by decide) ⟨by omega, by omega⟩ ⟨by omega, by omega⟩ (fun zc2 => ?_) (fun zc2 => ?_)
    · refine j_iload hc dX11_byteOf_21 rfl ?_
      refine j_bipush hc dX11_byteOf_23 (by decide) ?_
      refine j_icmp_ge (tgt := 32) hc dX11_byteOf_25 (by decide) ⟨by omega, by omega⟩ ⟨by omega, by omega⟩ (fun zc3 => ?_) (fun zc3 => ?_)
      · refine j_iload hc dX11_byteOf_32 rfl ?_
        refine j_bipush hc dX11_byteOf_34 (by decide) ?_
        refine j_icmp_ge (tgt := 43) hc dX11_byteOf_36 (by decide) ⟨by omega, by omega⟩ ⟨by omega, by omega⟩ (fun zc4 => ?_) (fun zc4 => ?_)
        · refine j_iload hc dX11_byteOf_43 rfl ?_
          refine j_istore (L' := [_, _, _, _, _, _, _]) hc dX11_byteOf_45 (Nat.le_of_ble_eq_true rfl) rfl ?_
          rw [show byK a b c e f j = byS f (24 - 8 * ((j : Int) % 4)) by unfold byK w5S; congr 1; (repeat (first | rw [if_pos (by omega)] | rw [if_neg (by omega)]))] at he
          exact tl_X11_byteOf hj hc he
        · refine j_iload_n hc dX11_byteOf_39 rfl ?_
          refine j_goto (tgt := 45) hc dX11_byteOf_40 (by decide) ?_
          refine j_istore (L' := [_, _, _, _, _, _, _]) hc dX11_byteOf_45 (Nat.le_of_ble_eq_true rfl) rfl ?_
          rw [show byK a b c e f j = byS e (24 - 8 * ((j : Int) % 4)) by unfold byK w5S; congr 1; (repeat (first | rw [if_pos (by omega)] | rw [if_neg (by omega)]))] at he
          exact tl_X11_byteOf hj hc he
      · refine j_iload_n hc dX11_byteOf_28 rfl ?_
        refine j_goto (tgt := 45) hc dX11_byteOf_29 (by decide) ?_
        refine j_istore (L' := [_, _, _, _, _, _, _]) hc dX11_byteOf_45 (Nat.le_of_ble_eq_true rfl) rfl ?_
        rw [show byK a b c e f j = byS c (24 - 8 * ((j : Int) % 4)) by unfold byK w5S; congr 1; (repeat (first | rw [if_pos (by omega)] | rw [if_neg (by omega)]))] at he
        exact tl_X11_byteOf hj hc he
    · refine j_iload_n hc dX11_byteOf_17 rfl ?_
      refine j_goto (tgt := 45) hc dX11_byteOf_18 (by decide) ?_
      refine j_istore (L' := [_, _, _, _, _, _, _]) hc dX11_byteOf_45 (Nat.le_of_ble_eq_true rfl) rfl ?_
      rw [show byK a b c e f j = byS b (24 - 8 * ((j : Int) % 4)) by unfold byK w5S; congr 1; (repeat (first | rw [if_pos (by omega)] | rw [if_neg (by omega)]))] at he
      exact tl_X11_byteOf hj hc he
  · refine j_iload_n hc dX11_byteOf_6 rfl ?_
    refine j_goto (tgt := 45) hc dX11_byteOf_7 (by decide) ?_
    refine j_istore (L' := [_, _, _, _, _, _, _]) hc dX11_byteOf_45 (Nat.le_of_ble_eq_true rfl) rfl ?_
    rw [show byK a b c e f j = byS a (24 - 8 * ((j : Int) % 4)) by unfold byK w5S; congr 1; (repeat (first | rw [if_pos (by omega)] | rw [if_neg (by omega)]))] at he
    exact tl_X11_byteOf hj hc he
set_option maxRecDepth 100000 in
set_option maxHeartbeats 4000000 in
theorem lp_X11_feed1 {k : WC} {d : Nat} {w : MC} {h : AH} {x1 x2 x3 x4 x5 : Int} (hd : 3 ≤ d) (hc : Cx w k d 0 0 mdX11_feed) (kont : ∀ z8 : Option AV, J w 0 0 44 [some (vR (70, 0)), some (vI x1), some (vI x2), some (vI x3), some (vI x4), some (vI x5), some (vI (nbK x1 x2 x3 x4 x5 20)), some (vI 20), z8] [] h) : ∀ (zm : Nat) (j : Nat) (z8 : Option AV), 20 - j = zm → j ≤ 20 → J w 0 0 6 [some (vR (70, 0)), some (vI x1), some (vI x2), some (vI x3), some (vI x4), some (vI x5), some (vI (nbK x1 x2 x3 x4 x5 j)), some (vI j), z8] [] h := by
  intro zm
  induction zm using Nat.strongRecOn with
  | _ zm ih =>
    intro j z8 hm hj
    have zby := byS_b (w5S x1 x2 x3 x4 x5 j) (24 - 8 * ((j : Int) % 4))
    refine j_iload hc dX11_feed_6 rfl ?_
    refine j_bipush hc dX11_feed_8 (by decide) ?_
    refine j_icmp_ge (tgt := 44) hc dX11_feed_10 (by decide) ⟨by omega, by omega⟩ ⟨by omega, by omega⟩ (fun zc1 => ?_) (fun zc1 => ?_)
    · have zj : j = 20 := by omega
      subst zj
      exact kont _
    · refine j_iload hc dX11_feed_13 rfl ?_
      refine j_iload_n hc dX11_feed_15 rfl ?_
      refine j_iload_n hc dX11_feed_16 rfl ?_
      refine j_iload_n hc dX11_feed_17 rfl ?_
      refine j_iload hc dX11_feed_18 rfl ?_
      refine j_iload hc dX11_feed_20 rfl ?_
      refine j_iload hc dX11_feed_22 rfl ?_
      refine j_callS (d' := d - 1) hc dX11_feed_24 sX11_118 (ev_X11_byteOf (by omega) (by omega)) rfl (by omega) (by omega) (by omega) rfl rfl (Nat.le_of_ble_eq_true rfl) (ret1 ?_)
      refine j_if_eq (b := 0) (tgt := 34) hc dX11_feed_27 (by decide) (by show inI (byS _ _); exact ⟨by omega, by omega⟩) (fun zc2 => ?_) (fun zc2 => ?_)
      · have zn1 : nbK x1 x2 x3 x4 x5 (j + 1) = nbK x1 x2 x3 x4 x5 j + 0 := by simp only [nbK]; rw [if_pos zc2]
        refine j_iconst hc dX11_feed_34 ?_
        refine j_iadd hc dX11_feed_35 ?_
        refine j_istore (L' := [_, _, _, _, _, _, _, _, _]) hc dX11_feed_36 (Nat.le_of_ble_eq_true rfl) rfl ?_
        refine j_iinc (L' := [_, _, _, _, _, _, _, _, _]) hc dX11_feed_38 rfl (Nat.le_of_ble_eq_true rfl) rfl ?_
        refine j_goto (tgt := 6) hc dX11_feed_41 (by decide) ?_
        rw [← zn1]
        exact ih _ (by omega) (j + 1) _ rfl (by omega)
      · have zn1 : nbK x1 x2 x3 x4 x5 (j + 1) = nbK x1 x2 x3 x4 x5 j + 1 := by simp only [nbK]; rw [if_neg zc2]
        refine j_iconst hc dX11_feed_30 ?_
        refine j_goto (tgt := 35) hc dX11_feed_31 (by decide) ?_
        refine j_iadd hc dX11_feed_35 ?_
        refine j_istore (L' := [_, _, _, _, _, _, _, _, _]) hc dX11_feed_36 (Nat.le_of_ble_eq_true rfl) rfl ?_
        refine j_iinc (L' := [_, _, _, _, _, _, _, _, _]) hc dX11_feed_38 rfl (Nat.le_of_ble_eq_true rfl) rfl ?_
        refine j_goto (tgt := 6) hc dX11_feed_41 (by decide) ?_
        rw [← zn1]
        exact ih _ (by omega) (j + 1) _ rfl (by omega)
theorem MoR.pu {s : Int → Int} {A : MAs} {S : BaS} {th b : Int} {t : (Int → Int) × Int} (hR : MoR s A (sTp S t) th) (h0 : 0 ≤ t.2) (hb : b ≠ 0) (ht : t.2 < 240) : MoR (fu s 2 (t.2 + 1)) (fuA A 1 (fu (A 1) t.2 b)) (sTp S (pu1 t b)) th := by
  have e : pu1 t b = (fu t.1 t.2 b, t.2 + 1) := by unfold pu1; rw [if_pos ⟨hb, ht⟩]
  rw [e]
  exact MoR.tp (S := sTp S t) (t := (fu t.1 t.2 b, t.2 + 1)) hR rfl rfl rfl rfl rfl rfl rfl rfl rfl rfl rfl rfl rfl rfl rfl rfl rfl rfl rfl rfl rfl (fun i i0 i1 => by
    show fu _ _ _ i = fu _ _ _ i
    by_cases e2 : i = t.2
    · rw [e2, fu_same, fu_same]
    · rw [fu_ne e2, fu_ne e2]
      exact hR.2.2.2.2.2.2.2.1 i i0 (by show i < t.2; dsimp only at i1; omega))
theorem puK_n {x1 x2 x3 x4 x5 : Int} {t : (Int → Int) × Int} {N : Nat} (h1 : t.2 + nbK x1 x2 x3 x4 x5 N ≤ 240) : ∀ k : Nat, k ≤ N → (puK x1 x2 x3 x4 x5 t k).2 = t.2 + nbK x1 x2 x3 x4 x5 k
  | 0, _ => by show t.2 = t.2 + 0; omega
  | k + 1, h => by
    have ih := puK_n h1 k (by omega)
    have h2 := nbK_lo (a := x1) (b := x2) (c := x3) (e := x4) (f := x5) (k + 1) (N - (k + 1))
    rw [show k + 1 + (N - (k + 1)) = N by omega, nbK_s _ _ _ _ _ k] at h2
    simp only [puK, pu1]
    rw [nbK_s _ _ _ _ _ k]
    by_cases e : byK x1 x2 x3 x4 x5 k = 0
    · rw [if_neg (fun z => z.1 e), if_pos e]; omega
    · rw [if_neg e] at h2 ⊢
      rw [if_pos ⟨e, by omega⟩]
      show (puK x1 x2 x3 x4 x5 t k).2 + 1 = _
      omega
set_option maxRecDepth 100000 in
set_option maxHeartbeats 4000000 in
theorem lp_X11_feed2 {k : WC} {d : Nat} {w : MC} {h0 : AH} {S : BaS} {th : Int} {x1 x2 x3 x4 x5 nn : Int} {N : Nat} (hN : N = 20) (hd : 3 ≤ d) (h00 : 0 ≤ bN S) (h1 : bN S + nbK x1 x2 x3 x4 x5 N ≤ 240) (hK : BOK (sTp S (puK x1 x2 x3 x4 x5 (bB S, bN S) N))) (hc : Cx w k d 0 0 mdX11_feed) (he : Ends w 0 0 (pe fun v h' => v = vI ((puK x1 x2 x3 x4 x5 (bB S, bN S) N).2) ∧ ModAt h' (sTp S (puK x1 x2 x3 x4 x5 (bB S, bN S) N)) th ∧ Fr isMo h0 h')) : ∀ (zm : Nat) (j : Nat) (z8 : Option AV) (s : Int → Int) (A : MAs) (h : AH), 20 - j = zm → j ≤ 20 → MdS h s A → MoR s A (sTp S (puK x1 x2 x3 x4 x5 (bB S, bN S) j)) th → MoB h → MoX h S → Fr isMo h0 h → J w 0 0 62 [some (vR (70, 0)), some (vI x1), some (vI x2), some (vI x3), some (vI x4), some (vI x5), some (vI nn), some (vI j), z8] [] h := by
  intro zm
  induction zm using Nat.strongRecOn with
  | _ zm ih =>
    intro j z8 s A h hm hj hS hR hB hX hF
    have zby := byS_b (w5S x1 x2 x3 x4 x5 j) (24 - 8 * ((j : Int) % 4))
    have zpn : (puK x1 x2 x3 x4 x5 (bB S, bN S) j).2 = bN S + nbK x1 x2 x3 x4 x5 j := puK_n (t := (bB S, bN S)) h1 j (by omega)
    have znb := nbK_b (a := x1) (b := x2) (c := x3) (e := x4) (f := x5) j
    have zs2 : s 2 = (puK x1 x2 x3 x4 x5 (bB S, bN S) j).2 := hR.2.1
    refine j_iload hc dX11_feed_62 rfl ?_
    refine j_bipush hc dX11_feed_64 (by decide) ?_
    refine j_icmp_ge (tgt := 115) hc dX11_feed_66 (by decide) ⟨by omega, by omega⟩ ⟨by omega, by omega⟩ (fun zc1 => ?_) (fun zc1 => ?_)
    · refine j_aload_n hc dX11_feed_115 rfl ?_
      refine j_get hc dX11_feed_116 fX11_122 hS.1 rfl ?_
      exact j_iret hc he dX11_feed_119 rfl (by omega) (by omega) ⟨_, rfl, by rw [zs2, show j = N by omega], ⟨s, A, hS, by rw [show N = j by omega]; exact hR, hB, hX, hK⟩, hF⟩
    · refine j_iload_n hc dX11_feed_69 rfl ?_
      refine j_iload_n hc dX11_feed_70 rfl ?_
      refine j_iload_n hc dX11_feed_71 rfl ?_
      refine j_iload hc dX11_feed_72 rfl ?_
      refine j_iload hc dX11_feed_74 rfl ?_
      refine j_iload hc dX11_feed_76 rfl ?_
      refine j_callS (d' := d - 1) hc dX11_feed_78 sX11_118 (ev_X11_byteOf (by omega) (by omega)) rfl (by omega) (by omega) (by omega) rfl rfl (Nat.le_of_ble_eq_true rfl) (ret1 ?_)
      refine j_istore (L' := [_, _, _, _, _, _, _, _, _]) hc dX11_feed_81 (Nat.le_of_ble_eq_true rfl) rfl ?_
      refine j_iload hc dX11_feed_83 rfl ?_
      refine j_if_eq (b := 0) (tgt := 109) hc dX11_feed_85 (by decide) (by show inI (byS _ _); exact ⟨by omega, by omega⟩) (fun zc2 => ?_) (fun zc2 => ?_)
      · have zp1 : puK x1 x2 x3 x4 x5 (bB S, bN S) (j + 1) = puK x1 x2 x3 x4 x5 (bB S, bN S) j := by simp only [puK, pu1]; rw [if_neg (fun z => z.1 zc2)]
        refine j_iinc (L' := [_, _, _, _, _, _, _, _, _]) hc dX11_feed_109 rfl (Nat.le_of_ble_eq_true rfl) rfl ?_
        refine j_goto (tgt := 62) hc dX11_feed_112 (by decide) ?_
        exact ih _ (by omega) (j + 1) _ s A h rfl (by omega) hS (by rw [zp1]; exact hR) hB hX hF
      · have zb : byK x1 x2 x3 x4 x5 j ≠ 0 := zc2
        have zp1 : puK x1 x2 x3 x4 x5 (bB S, bN S) (j + 1) = pu1 (puK x1 x2 x3 x4 x5 (bB S, bN S) j) (byK x1 x2 x3 x4 x5 j) := rfl
        have h2 := nbK_lo (a := x1) (b := x2) (c := x3) (e := x4) (f := x5) (j + 1) (N - (j + 1))
        rw [show j + 1 + (N - (j + 1)) = N by omega, nbK_s _ _ _ _ _ j, if_neg zb] at h2
        refine j_aload_n hc dX11_feed_88 rfl ?_
        refine j_get hc dX11_feed_89 fX11_9 hS.1 rfl ?_
        refine j_aload_n hc dX11_feed_92 rfl ?_
        refine j_get hc dX11_feed_93 fX11_122 hS.1 rfl ?_
        rw [zs2]
        refine j_iload hc dX11_feed_96 rfl ?_
        refine j_iast hc dX11_feed_98 hS.2.1 (by omega) (by omega) ?_
        generalize ezh1 : up _ _ _ = zh1
        have zzmod_zh1 := MdS.pa_1 ezh1 hS
        have zzmob_zh1 := MoB.mv ezh1 (by simp) hB
        have zzmox_zh1 := MoX.mv ezh1 (by simp) hX
        refine j_aload_n hc dX11_feed_99 rfl ?_
        refine j_dup hc dX11_feed_100 rfl ?_
        refine j_get hc dX11_feed_101 fX11_122 zzmod_zh1.1 rfl ?_
        rw [zs2]
        refine j_iconst hc dX11_feed_104 ?_
        refine j_iadd hc dX11_feed_105 ?_
        refine j_put  hc dX11_feed_106 pX11_122 zzmod_zh1.1 rfl mset_2 ?_
        generalize ezh2 : up _ _ _ = zh2
        have zzmod_zh2 := MdS.pf ezh2 zzmod_zh1
        have zzmob_zh2 := MoB.mv ezh2 (by simp) zzmob_zh1
        have zzmox_zh2 := MoX.mv ezh2 (by simp) zzmox_zh1
        refine j_iinc (L' := [_, _, _, _, _, _, _, _, _]) hc dX11_feed_109 rfl (Nat.le_of_ble_eq_true rfl) rfl ?_
        refine j_goto (tgt := 62) hc dX11_feed_112 (by decide) ?_
        exact ih _ (by omega) (j + 1) _ _ _ _ rfl (by omega) zzmod_zh2 (by rw [zp1]; exact MoR.pu hR (by omega) zb (by omega)) zzmob_zh2 zzmox_zh2 (by rw [← ezh2, ← ezh1]; exact (hF.push (Or.inr (by decide))).push (Or.inl rfl))
set_option maxRecDepth 100000 in
set_option maxHeartbeats 4000000 in
theorem ev_X11_feed_a {k : WC} {d : Nat} {h : AH} {S : BaS} {th : Int} {x1 x2 x3 x4 x5 : Int} (hd : 5 ≤ d) (hMo : ModAt h S th) (hK' : BOK (if bN S + nb5 x1 x2 x3 x4 x5 ≤ 240 then sTp S (pu5 S x1 x2 x3 x4 x5) else S)) : Ev k d mdX11_feed h [vR (70, 0), vI x1, vI x2, vI x3, vI x4, vI x5] 0 0 (pe fun v h' => v = vI (if bN S + nb5 x1 x2 x3 x4 x5 ≤ 240 then (pu5 S x1 x2 x3 x4 x5).2 else -1) ∧ ModAt h' (if bN S + nb5 x1 x2 x3 x4 x5 ≤ 240 then sTp S (pu5 S x1 x2 x3 x4 x5) else S) th ∧ Fr isMo h h') := by
  obtain ⟨s, A, hS, hR, hB, hX, hK⟩ := id hMo
  obtain ⟨m0, m2, m22, m27, m44, m45, m46, mTp, mLd, mRu, mRw, mFr⟩ := id hR
  obtain ⟨⟨kTa, kTb⟩, ⟨kL0, kL1⟩, ⟨kR0, kR1⟩, kLd, kRu, kRw, ⟨kT0, kT1⟩, kS0, kS1⟩ := id hK
  have znb := nbK_b (a := x1) (b := x2) (c := x3) (e := x4) (f := x5) 20
  have zn20 := nbK_20 (a := x1) (b := x2) (c := x3) (e := x4) (f := x5)
  refine Ev.mk (by decide +kernel) [_, _, _, _, _, _, _, _, _] rfl (Nat.le_of_ble_eq_true rfl) (fun w hc he => ?_)
  refine j_iconst hc dX11_feed_0 ?_
  refine j_istore (L' := [_, _, _, _, _, _, _, _, _]) hc dX11_feed_1 (Nat.le_of_ble_eq_true rfl) rfl ?_
  refine j_iconst hc dX11_feed_3 ?_
  refine j_istore (L' := [_, _, _, _, _, _, _, _, _]) hc dX11_feed_4 (Nat.le_of_ble_eq_true rfl) rfl ?_
  refine lp_X11_feed1 (by omega) hc (fun z8 => ?_) _ 0 _ rfl (by omega)
  refine j_aload_n hc dX11_feed_44 rfl ?_
  refine j_get hc dX11_feed_45 fX11_122 hS.1 rfl ?_
  rw [m2]
  refine j_iload hc dX11_feed_48 rfl ?_
  refine j_iadd hc dX11_feed_50 ?_
  refine j_sipush hc dX11_feed_51 (by decide) ?_
  refine j_icmp_le (tgt := 59) hc dX11_feed_54 (by decide) ⟨by omega, by omega⟩ ⟨by omega, by omega⟩ (fun zc1 => ?_) (fun zc1 => ?_)
  · refine j_iconst hc dX11_feed_59 ?_
    refine j_istore (L' := [_, _, _, _, _, _, _, _, _]) hc dX11_feed_60 (Nat.le_of_ble_eq_true rfl) rfl ?_
    exact lp_X11_feed2 (N := 20) rfl (by omega) (by omega) (by omega) (by rw [if_pos (by omega)] at hK'; rw [puK_20]; exact hK') hc (he.mono fun r h' zp => by obtain ⟨v, zr, zv, zm, zF⟩ := zp; rw [puK_20] at zv zm; exact ⟨v, zr, by rw [if_pos (by omega)]; exact zv, by rw [if_pos (by omega)]; exact zm, zF⟩) _ 0 _ s A h rfl (by omega) hS hR hB hX (Fr.rf _ _)
  · refine j_iconst hc dX11_feed_57 ?_
    exact j_iret hc he dX11_feed_58 rfl (by omega) (by omega) ⟨_, rfl, by rw [if_neg (by omega)], by rw [if_neg (by omega)]; exact hMo, Fr.rf _ _⟩
