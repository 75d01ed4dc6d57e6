/-! ===== the tape ===== -/
def nbN (x : Int) : Nat → Int
  | 0 => 0
  | j + 1 => nbN x j + (if byS x (24 - 8 * j) = 0 then 0 else 1)
def pu1 (s : (Int → Int) × Int) (b : Int) : (Int → Int) × Int := if b ≠ 0 ∧ s.2 < 240 then (fu s.1 s.2 b, s.2 + 1) else s
def puN (x : Int) : Nat → (Int → Int) × Int → (Int → Int) × Int
  | 0, s => s
  | j + 1, s => pu1 (puN x j s) (byS x (24 - 8 * j))
def TapeAt (h : AH) (s : (Int → Int) × Int) : Prop := h (1, 0) = some (oO 7 [vR (2, 0), vI s.2]) ∧ h (2, 0) = some (oI 240 s.1)
abbrev isTape : Nm → Prop := fun n => n.1 = 1 ∨ n.1 = 2
set_option maxRecDepth 100000 in
set_option maxHeartbeats 4000000 in
theorem lp_X8_bytesIn {k : WC} {d : Nat} {w : MC} {h : AH} {x : Int} (hd : 1 ≤ d) (hc : Cx w k d 0 0 mdX8_bytesIn) (he : Ends w 0 0 (pr (vI (nbN x 4)) h)) : ∀ (zm : Nat) (j : Nat) (c sh : Int), 4 - j = zm → j ≤ 4 → c = nbN x j → 0 ≤ c → c ≤ j → sh = 24 - 8 * j → J w 0 0 5 [some (vI x), some (vI c), some (vI sh)] [] h := by
  intro zm
  induction zm using Nat.strongRecOn with
  | _ zm ih =>
    intro j c sh hm hj hcc hc0 hc1 hsh
    subst hsh
    have hby := byS_b x (24 - 8 * j)
    refine j_iload_n hc dX8_bytesIn_5 rfl ?_
    refine j_if_lt (b := 0) (tgt := 28) hc dX8_bytesIn_6 (by decide) ⟨by omega, by omega⟩ (fun zc1 => ?_) (fun zc1 => ?_)
    · refine j_iload_n hc dX8_bytesIn_28 rfl ?_
      exact j_iret hc he dX8_bytesIn_29 rfl (by omega) (by omega) ⟨vI_eq (by rw [hcc]; congr 1; omega), rfl⟩
    · refine j_iload_n hc dX8_bytesIn_9 rfl ?_
      refine j_iload_n hc dX8_bytesIn_10 rfl ?_
      refine j_iushr (r := (((Int32.ofInt x).toUInt32 >>> ((Int32.ofInt (24 - 8 * j)).toUInt32 &&& Int32.toUInt32 31)).toInt32).toInt) hc dX8_bytesIn_11 (Int32.ofInt_toInt _).symm ?_
      refine j_sipush hc dX8_bytesIn_12 (by decide) ?_
      refine j_iand (r := byS x (24 - 8 * j)) hc dX8_bytesIn_15 (byS_st x (24 - 8 * j) (by omega) (by omega)) ?_
      refine j_if_eq (b := 0) (tgt := 22) hc dX8_bytesIn_16 (by decide) ⟨by omega, by omega⟩ (fun zc2 => ?_) (fun zc2 => ?_)
      · refine j_iinc (L' := [_, _, _]) hc dX8_bytesIn_22 rfl (Nat.le_of_ble_eq_true rfl) rfl ?_
        refine j_goto (tgt := 5) hc dX8_bytesIn_25 (by decide) ?_
        exact ih _ (by omega) (j + 1) _ _ rfl (by omega) (by simp only [nbN]; split <;> omega) (by omega) (by omega) (by omega)
      · refine j_iinc (L' := [_, _, _]) hc dX8_bytesIn_19 rfl (Nat.le_of_ble_eq_true rfl) rfl ?_
        refine j_iinc (L' := [_, _, _]) hc dX8_bytesIn_22 rfl (Nat.le_of_ble_eq_true rfl) rfl ?_
        refine j_goto (tgt := 5) hc dX8_bytesIn_25 (by decide) ?_
        exact ih _ (by omega) (j + 1) _ _ rfl (by omega) (by simp only [nbN]; split <;> omega) (by omega) (by omega) (by omega)
set_option maxRecDepth 100000 in
set_option maxHeartbeats 4000000 in
theorem ev_X8_bytesIn {k : WC} {d : Nat} {h : AH} {x : Int} (hd : 1 ≤ d) : Ev k d mdX8_bytesIn h [vI x] 0 0 (pr (vI (nbN x 4)) h) := by
  refine Ev.mk (by decide +kernel) [_, _, _] rfl (Nat.le_of_ble_eq_true rfl) (fun w hc he => ?_)
  refine j_iconst hc dX8_bytesIn_0 ?_
  refine j_istore_n (L' := [_, _, _]) hc dX8_bytesIn_1 (Nat.le_of_ble_eq_true rfl) rfl ?_
  refine j_bipush hc dX8_bytesIn_2 (by decide) ?_
  refine j_istore_n (L' := [_, _, _]) hc dX8_bytesIn_4 (Nat.le_of_ble_eq_true rfl) rfl ?_
  exact lp_X8_bytesIn hd hc he 4 0 _ _ rfl (by omega) rfl (by omega) (by omega) rfl
set_option maxRecDepth 100000 in
set_option maxHeartbeats 4000000 in
theorem lp_X8_put {k : WC} {d : Nat} {w : MC} {h : AH} {x : Int} {s : (Int → Int) × Int} (hd : 1 ≤ d) (hc : Cx w k d 0 0 mdX8_put) (he : Ends w 0 0 (pn fun h' => TapeAt h' (puN x 4 s) ∧ Fr isTape h h')) : ∀ (zm : Nat) (j : Nat) (t : (Int → Int) × Int) (sh : Int) (h' : AH) (z3 : Option AV), 4 - j = zm → j ≤ 4 → sh = 24 - 8 * j → t = puN x j s → 0 ≤ t.2 → t.2 ≤ 240 → TapeAt h' t → Fr isTape h h' → J w 0 0 3 [some (vR (1, 0)), some (vI x), some (vI sh), z3] [] h' := by
  intro zm
  induction zm using Nat.strongRecOn with
  | _ zm ih =>
    intro j t sh h' z3 hm hj hsh ht hlo hhi hT hfr
    subst hsh
    obtain ⟨zt1, zt2⟩ := id hT
    have hby := byS_b x (24 - 8 * j)
    refine j_iload_n hc dX8_put_3 rfl ?_
    refine j_if_lt (b := 0) (tgt := 57) hc dX8_put_4 (by decide) ⟨by omega, by omega⟩ (fun zc1 => ?_) (fun zc1 => ?_)
    · exact j_vret hc he dX8_put_57 rfl (by omega) (by omega) ⟨rfl, by rw [show (4 : Nat) = j by omega, ← ht]; exact hT, hfr⟩
    · refine j_iload_n hc dX8_put_7 rfl ?_
      refine j_iload_n hc dX8_put_8 rfl ?_
      refine j_iushr (r := (((Int32.ofInt x).toUInt32 >>> ((Int32.ofInt (24 - 8 * j)).toUInt32 &&& Int32.toUInt32 31)).toInt32).toInt) hc dX8_put_9 (Int32.ofInt_toInt _).symm ?_
      refine j_sipush hc dX8_put_10 (by decide) ?_
      refine j_iand (r := byS x (24 - 8 * j)) hc dX8_put_13 (byS_st x (24 - 8 * j) (by omega) (by omega)) ?_
      refine j_istore_n (L' := [_, _, _, _]) hc dX8_put_14 (Nat.le_of_ble_eq_true rfl) rfl ?_
      refine j_iload_n hc dX8_put_15 rfl ?_
      refine j_if_eq (b := 0) (tgt := 51) hc dX8_put_16 (by decide) ⟨by omega, by omega⟩ (fun zc2 => ?_) (fun zc2 => ?_)
      · refine j_iinc (L' := [_, _, _, _]) hc dX8_put_51 rfl (Nat.le_of_ble_eq_true rfl) rfl ?_
        refine j_goto (tgt := 3) hc dX8_put_54 (by decide) ?_
        refine ih _ (by omega) (j + 1) t _ _ _ rfl (by omega) (by omega) (by simp only [puN, pu1]; rw [if_neg (by rw [← ht]; omega)]; exact ht) hlo hhi ⟨zt1, zt2⟩ hfr
      · refine j_aload_n hc dX8_put_19 rfl ?_
        refine j_get hc dX8_put_20 fX8_15 zt1 rfl ?_
        refine j_aload_n hc dX8_put_23 rfl ?_
        refine j_get hc dX8_put_24 fX8_9 zt1 rfl ?_
        refine j_alenP hc dX8_put_27 zt2 (by decide) ?_
        refine j_icmp_ge (tgt := 51) hc dX8_put_28 (by decide) ⟨by omega, by omega⟩ ⟨by omega, by omega⟩ (fun zc3 => ?_) (fun zc3 => ?_)
        · refine j_iinc (L' := [_, _, _, _]) hc dX8_put_51 rfl (Nat.le_of_ble_eq_true rfl) rfl ?_
          refine j_goto (tgt := 3) hc dX8_put_54 (by decide) ?_
          refine ih _ (by omega) (j + 1) t _ _ _ rfl (by omega) (by omega) (by simp only [puN, pu1]; rw [if_neg (by rw [← ht]; omega)]; exact ht) hlo hhi ⟨zt1, zt2⟩ hfr
        · refine j_aload_n hc dX8_put_31 rfl ?_
          refine j_get hc dX8_put_32 fX8_9 zt1 rfl ?_
          refine j_aload_n hc dX8_put_35 rfl ?_
          refine j_get hc dX8_put_36 fX8_15 zt1 rfl ?_
          refine j_iload_n hc dX8_put_39 rfl ?_
          refine j_iast hc dX8_put_40 zt2 (by omega) (by omega) ?_
          generalize ezh1 : up _ _ _ = zh1
          have zT_zh1 := (congrFun ezh1 _).symm.trans ((up_ne (by simp)).trans zt1)
          have zT2_zh1 := (congrFun ezh1 _).symm.trans (up_same _ _ _)
          refine j_aload_n hc dX8_put_41 rfl ?_
          refine j_dup hc dX8_put_42 rfl ?_
          refine j_get hc dX8_put_43 fX8_15 zT_zh1 rfl ?_
          refine j_iconst hc dX8_put_46 ?_
          refine j_iadd hc dX8_put_47 ?_
          refine j_put (fs' := [_, _]) hc dX8_put_48 pX8_15 zT_zh1 rfl rfl ?_
          generalize ezh2 : up _ _ _ = zh2
          have zT_zh2 := (congrFun ezh2 _).symm.trans (up_same _ _ _)
          have zT2_zh2 := (congrFun ezh2 _).symm.trans ((up_ne (by simp)).trans zT2_zh1)
          refine j_iinc (L' := [_, _, _, _]) hc dX8_put_51 rfl (Nat.le_of_ble_eq_true rfl) rfl ?_
          refine j_goto (tgt := 3) hc dX8_put_54 (by decide) ?_
          refine ih _ (by omega) (j + 1) (fu t.1 t.2 (byS x (24 - 8 * j)), t.2 + 1) _ _ _ rfl (by omega) (by omega) (by simp only [puN, pu1]; rw [if_pos (by rw [← ht]; omega), ← ht]) (by show 0 ≤ t.2 + 1; omega) (by show t.2 + 1 ≤ 240; omega) ⟨zT_zh2, zT2_zh2⟩ (by rw [← ezh2, ← ezh1]; exact (hfr.push (Or.inr rfl)).push (Or.inl rfl))
set_option maxRecDepth 100000 in
set_option maxHeartbeats 4000000 in
theorem ev_X8_put {k : WC} {d : Nat} {h : AH} {x : Int} {s : (Int → Int) × Int} (hd : 1 ≤ d) (hT : TapeAt h s) (hlo : 0 ≤ s.2) (hhi : s.2 ≤ 240) : Ev k d mdX8_put h [vR (1, 0), vI x] 0 0 (pn fun h' => TapeAt h' (puN x 4 s) ∧ Fr isTape h h') := by
  obtain ⟨zt1, zt2⟩ := id hT
  refine Ev.mk (by decide +kernel) [_, _, _, _] rfl (Nat.le_of_ble_eq_true rfl) (fun w hc he => ?_)
  refine j_bipush hc dX8_put_0 (by decide) ?_
  refine j_istore_n (L' := [_, _, _, _]) hc dX8_put_2 (Nat.le_of_ble_eq_true rfl) rfl ?_
  exact lp_X8_put hd hc he 4 0 s _ h _ rfl (by omega) rfl rfl hlo hhi hT (Fr.rf _ _)
