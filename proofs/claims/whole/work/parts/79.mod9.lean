/-! ===== rules: the reference's run, worthOf ===== -/
theorem moF_cons {lt : Int → Int} {x : Int} {t st s : List Int} (h : moF lt (x :: t) st = some s) : ∃ s', moO lt x st = some s' ∧ moF lt t s' = some s := by
  simp only [moF] at h
  cases e : moO lt x st with
  | none => rw [e] at h; cases h
  | some s' => rw [e] at h; exact ⟨s', rfl, h⟩
theorem moO_n {lt : Int → Int} {x : Int} {st s' : List Int} (h0 : x ≥ 0) (h : moO lt x st = some s') : st.length < 64 ∧ s' = x :: st := by
  unfold moO at h
  rw [if_pos h0] at h
  by_cases q : st.length < 64
  · rw [if_pos q] at h; cases h; exact ⟨q, rfl⟩
  · rw [if_neg q] at h; cases h
theorem moO_l {lt : Int → Int} {x : Int} {st s' : List Int} (h0 : x < 0) (h1 : x ≥ -5) (h : moO lt x st = some s') : st.length < 64 ∧ s' = lt (-1 - x) :: st := by
  unfold moO at h
  rw [if_neg (by omega), if_pos h1] at h
  by_cases q : st.length < 64
  · rw [if_pos q] at h; cases h; exact ⟨q, rfl⟩
  · rw [if_neg q] at h; cases h
theorem moO_x {lt : Int → Int} {st s' : List Int} (h : moO lt (-15) st = some s') : ∃ v t, st = v :: t ∧ s' = (1 - v) :: t ∧ (v = 0 ∨ v = 1) := by
  unfold moO at h
  rw [if_neg (by omega), if_neg (by omega), if_pos rfl] at h
  cases st with
  | nil => cases h
  | cons v t =>
    by_cases q : v = 0 ∨ v = 1
    · have h : (if v = 0 ∨ v = 1 then some ((1 - v) :: t) else none) = some s' := h
      rw [if_pos q] at h
      cases h
      exact ⟨v, t, rfl, rfl, q⟩
    · have h : (if v = 0 ∨ v = 1 then some ((1 - v) :: t) else none) = some s' := h
      rw [if_neg q] at h
      cases h
theorem moO_b {lt : Int → Int} {x : Int} {st s' : List Int} (h0 : -14 ≤ x) (h1 : x ≤ -6) (h : moO lt x st = some s') : ∃ v u t, st = v :: u :: t ∧ s' = boS x u v :: t := by
  unfold moO at h
  rw [if_neg (by omega), if_neg (by omega), if_neg (by omega)] at h
  cases st with
  | nil => cases h
  | cons v t =>
    cases t with
    | nil => cases h
    | cons u t => cases h; exact ⟨v, u, t, rfl, rfl⟩
theorem boS_b {x u v : Int} : inI (boS x u v) := by
  unfold boS
  split
  · exact clS_b _
  · split
    · split <;> exact ⟨by omega, by omega⟩
    · split
      · split <;> exact ⟨by omega, by omega⟩
      · rcases trS_01 x u v with h | h <;> (rw [h]; exact ⟨by omega, by omega⟩)
/-- the codes of a rule from k on -/
def CdA (A : MAs) (k : Int) (t : List Int) : Prop := ∀ i : Nat, i < (trL t).length → A 23 (k + i) = (trL t).getD i 0
theorem CdA.tail {A : MAs} {k : Int} {x : Int} {t : List Int} (h : CdA A k (x :: t)) : CdA A (k + (trT x).length) t := fun i hi => by
  have := h ((trT x).length + i) (by rw [trL_cons, List.length_append]; omega)
  rw [trL_cons, List.getD_eq_getElem?_getD, List.getElem?_append_right (by omega), show (trT x).length + i - (trT x).length = i by omega, ← List.getD_eq_getElem?_getD] at this
  rw [← this]
  congr 1
  omega
theorem CdA.hd {A : MAs} {k : Int} {x : Int} {t : List Int} (h : CdA A k (x :: t)) : (x ≥ 0 → A 23 k = 0 ∧ A 23 (k + 1) = x) ∧ (x < 0 → x ≥ -5 → A 23 k = 1 ∧ A 23 (k + 1) = lch x) ∧ (x < -5 → A 23 k = sch x) := by
  have hl := trT_len x
  have h0 := h 0 (by rw [trL_cons, List.length_append]; omega)
  have h1 := fun z => h 1 (by rw [trL_cons, List.length_append]; exact z)
  rw [trL_cons] at h0 h1
  refine ⟨fun z => ?_, fun z z2 => ?_, fun z => ?_⟩
  · unfold trT at h0 h1
    rw [if_pos z] at h0 h1
    exact ⟨by simpa using h0, by simpa using h1 (by simp; omega)⟩
  · unfold trT at h0 h1
    rw [if_neg (by omega), if_pos z2] at h0 h1
    exact ⟨by simpa using h0, by simpa using h1 (by simp; omega)⟩
  · unfold trT at h0
    rw [if_neg (by omega), if_neg (by omega)] at h0
    simpa using h0
theorem SkR_top {g : Int → Int} {v : Int} {t : List Int} (h : SkR g (v :: t)) : g t.length = v := h.1
theorem SkR_put {g : Int → Int} {v : Int} {t : List Int} (h : SkR g t) : SkR (fu g t.length v) (v :: t) := ⟨fu_same _ _ _, SkR_fu (Int.le_refl _) h⟩
set_option maxRecDepth 100000 in
set_option maxHeartbeats 4000000 in
theorem lp_X11_run {k : WC} {d : Nat} {w : MC} {h : AH} {s : Int → Int} {A : MAs} {r fr to a t n p my vv : Int} (hd : 6 ≤ d) (hr0 : 0 ≤ r) (hr1 : r < 6) (hto0 : 0 ≤ to) (hto : to ≤ 400) (ha : inI a) (ht : inI t) (hn : inI n) (hp : inI p) (hmy : inI my) (hc : Cx w k d 0 0 mdX11_run) (he : Ends w 0 0 (pe fun v h' => v = vL vv ∧ (∃ pf', h' (230, 0) = some (oL 400 pf')) ∧ Fr (fun z => z = (230, 0)) h h')) : ∀ (zm : Nat) (rest st : List Int) (top kk : Int) (z11 z12 : Option AV) (g : Int → Int) (h' : AH), rest.length = zm → top = st.length → kk = 400 * r + to - (trL rest).length ∧ st.length ≤ 64 ∧ 400 * r ≤ kk → CdA A kk rest → (∀ x ∈ rest, tkIn x) → allI st → moF (l5 a t n p my) rest st = some [vv] → SkR g st → MdS h' s A → h' (230, 0) = some (oL 400 g) → Fr (fun z => z = (230, 0)) h h' → J w 0 0 12 [some (vR (70, 0)), some (vI r), some (vI fr), some (vI to), some (vI a), some (vI t), some (vI n), some (vI p), some (vI my), some (vI top), some (vI kk), z11, z12] [] h' := by
  intro zm
  induction zm using Nat.strongRecOn with
  | _ zm ih =>
    intro rest st top kk z11 z12 g h' hm htop hkk hcd htk hal hmo hsk hS zP hfr
    cases rest with
    | nil =>
      have zst : st = [vv] := by cases hmo; rfl
      subst zst
      have zfin : g 0 = vv := hsk.1
      have zl0 : (trL []).length = 0 := rfl
      refine j_iload hc dX11_run_12 rfl ?_
      refine j_sipush hc dX11_run_14 (by decide) ?_
      refine j_iload_n hc dX11_run_17 rfl ?_
      refine j_imul hc dX11_run_18 ?_
      refine j_iload_n hc dX11_run_19 rfl ?_
      refine j_iadd hc dX11_run_20 ?_
      refine j_icmp_ge (tgt := 199) hc dX11_run_21 (by decide) ⟨by omega, by omega⟩ ⟨by omega, by omega⟩ (fun zc1 => ?_) (fun zc1 => ?_)
      · refine j_aload_n hc dX11_run_199 rfl ?_
        refine j_get hc dX11_run_200 fX11_73 hS.1 rfl ?_
        refine j_iconst hc dX11_run_203 ?_
        refine j_lald hc dX11_run_204 zP (by omega) (by omega) ?_
        exact j_lret hc he dX11_run_205 rfl (by omega) (by omega) ⟨_, rfl, by rw [zfin], ⟨_, zP⟩, hfr⟩
      · exact absurd zc1 (by omega)
    | cons x rest2 =>
      have hx := htk x List.mem_cons_self
      obtain ⟨s2, zo, zmo⟩ := moF_cons hmo
      obtain ⟨zh1, zh2, zh3⟩ := hcd.hd
      have zl1 := trT_len x
      have zl2 : (trL (x :: rest2)).length = (trT x).length + (trL rest2).length := by rw [trL_cons, List.length_append]
      have hm2 : rest2.length < zm := by rw [← hm]; simp
      by_cases hx0 : x ≥ 0
      · obtain ⟨zcd0, zcd1⟩ := zh1 hx0
        obtain ⟨zln, zst⟩ := moO_n hx0 zo
        have zlen : (trT x).length = 2 := by unfold trT; rw [if_pos hx0]; rfl
        have hxI : inI x := ⟨by omega, by omega⟩
        have ztop : top = (st.length : Int) := htop
        rw [zst] at zmo
        refine j_iload hc dX11_run_12 rfl ?_
        refine j_sipush hc dX11_run_14 (by decide) ?_
        refine j_iload_n hc dX11_run_17 rfl ?_
        refine j_imul hc dX11_run_18 ?_
        refine j_iload_n hc dX11_run_19 rfl ?_
        refine j_iadd hc dX11_run_20 ?_
        refine j_icmp_ge (tgt := 199) hc dX11_run_21 (by decide) ⟨by omega, by omega⟩ ⟨by omega, by omega⟩ (fun zc1 => ?_) (fun zc1 => ?_)
        · exact absurd zc1 (by omega)
        · refine j_aload_n hc dX11_run_24 rfl ?_
          refine j_get hc dX11_run_25 fX11_61 hS.1 rfl ?_
          refine j_iload hc dX11_run_28 rfl ?_
          refine j_iald hc dX11_run_30 hS.2.2.2.2.2.2.2.2.2.2.2.2.2.2.2.2.2.2.1 (by omega) (by omega) ?_
          rw [zcd0]
          refine j_istore (L' := [_, _, _, _, _, _, _, _, _, _, _, _, _]) hc dX11_run_31 (Nat.le_of_ble_eq_true rfl) rfl ?_
          refine j_iinc (L' := [_, _, _, _, _, _, _, _, _, _, _, _, _]) hc dX11_run_33 rfl (Nat.le_of_ble_eq_true rfl) rfl ?_
          refine j_iload hc dX11_run_36 rfl ?_
          refine j_iconst hc dX11_run_38 ?_
          refine j_icmp_ge (tgt := 133) hc dX11_run_39 (by decide) ⟨by omega, by omega⟩ ⟨by omega, by omega⟩ (fun zc2 => ?_) (fun zc2 => ?_)
          · exact absurd zc2 (by omega)
          · refine j_aload_n hc dX11_run_42 rfl ?_
            refine j_get hc dX11_run_43 fX11_61 hS.1 rfl ?_
            refine j_iload hc dX11_run_46 rfl ?_
            refine j_iald hc dX11_run_48 hS.2.2.2.2.2.2.2.2.2.2.2.2.2.2.2.2.2.2.1 (by omega) (by omega) ?_
            rw [zcd1]
            refine j_istore (L' := [_, _, _, _, _, _, _, _, _, _, _, _, _]) hc dX11_run_49 (Nat.le_of_ble_eq_true rfl) rfl ?_
            refine j_iinc (L' := [_, _, _, _, _, _, _, _, _, _, _, _, _]) hc dX11_run_51 rfl (Nat.le_of_ble_eq_true rfl) rfl ?_
            refine j_aload_n hc dX11_run_54 rfl ?_
            refine j_get hc dX11_run_55 fX11_73 hS.1 rfl ?_
            refine j_iload hc dX11_run_58 rfl ?_
            refine j_iload hc dX11_run_60 rfl ?_
            refine j_if_ne (b := 0) (tgt := 71) hc dX11_run_62 (by decide) ⟨by omega, by omega⟩ (fun zc3 => ?_) (fun zc3 => ?_)
            · exact absurd rfl zc3
            · refine j_iload hc dX11_run_65 rfl ?_
              refine j_i2l hc dX11_run_67 hxI ?_
              refine j_goto (tgt := 126) hc dX11_run_68 (by decide) ?_
              refine j_last hc dX11_run_126 zP (by omega) (by omega) ?_
              generalize ezh1 : up _ _ _ = zh1
              have zzmod_zh1 := MdS.mv ezh1 (by simp) hS
              have zM30_zh1 := (congrFun ezh1 _).symm.trans (up_same _ _ _)
              refine j_iinc (L' := [_, _, _, _, _, _, _, _, _, _, _, _, _]) hc dX11_run_127 rfl (Nat.le_of_ble_eq_true rfl) rfl ?_
              refine j_goto (tgt := 196) hc dX11_run_130 (by decide) ?_
              refine j_goto (tgt := 12) hc dX11_run_196 (by decide) ?_
              exact ih _ (by omega) rest2 (x :: st) _ _ _ _ _ _ rfl (by simp only [List.length_cons]; omega) (by simp only [List.length_cons]; omega) (by have := hcd.tail; rw [zlen] at this; exact (by rw [show kk + 1 + 1 = kk + (2 : Nat) by omega]; exact this)) (fun y hy => htk y (List.mem_cons_of_mem _ hy)) (List.forall_mem_cons.mpr ⟨hxI, hal⟩) zmo (by rw [ztop]; exact SkR_put hsk) zzmod_zh1 zM30_zh1 (by rw [← ezh1]; exact hfr.push rfl)
      by_cases hx5 : x ≥ -5
      · obtain ⟨zcd0, zcd1⟩ := zh2 (by omega) hx5
        obtain ⟨zln, zst⟩ := moO_l (by omega) hx5 zo
        have zlen : (trT x).length = 2 := by unfold trT; rw [if_neg hx0, if_pos hx5]; rfl
        have ztop : top = (st.length : Int) := htop
        rw [zst] at zmo
        rcases (by omega : x = -1 ∨ x = -2 ∨ x = -3 ∨ x = -4 ∨ x = -5) with rfl | rfl | rfl | rfl | rfl
        · have zcd1 : A 23 (kk + 1) = 97 := zcd1
          refine j_iload hc dX11_run_12 rfl ?_
          refine j_sipush hc dX11_run_14 (by decide) ?_
          refine j_iload_n hc dX11_run_17 rfl ?_
          refine j_imul hc dX11_run_18 ?_
          refine j_iload_n hc dX11_run_19 rfl ?_
          refine j_iadd hc dX11_run_20 ?_
          refine j_icmp_ge (tgt := 199) hc dX11_run_21 (by decide) ⟨by omega, by omega⟩ ⟨by omega, by omega⟩ (fun zc1 => ?_) (fun zc1 => ?_)
          · exact absurd zc1 (by omega)
          · refine j_aload_n hc dX11_run_24 rfl ?_
            refine j_get hc dX11_run_25 fX11_61 hS.1 rfl ?_
            refine j_iload hc dX11_run_28 rfl ?_
            refine j_iald hc dX11_run_30 hS.2.2.2.2.2.2.2.2.2.2.2.2.2.2.2.2.2.2.1 (by omega) (by omega) ?_
            rw [zcd0]
            refine j_istore (L' := [_, _, _, _, _, _, _, _, _, _, _, _, _]) hc dX11_run_31 (Nat.le_of_ble_eq_true rfl) rfl ?_
            refine j_iinc (L' := [_, _, _, _, _, _, _, _, _, _, _, _, _]) hc dX11_run_33 rfl (Nat.le_of_ble_eq_true rfl) rfl ?_
            refine j_iload hc dX11_run_36 rfl ?_
            refine j_iconst hc dX11_run_38 ?_
            refine j_icmp_ge (tgt := 133) hc dX11_run_39 (by decide) ⟨by omega, by omega⟩ ⟨by omega, by omega⟩ (fun zc2 => ?_) (fun zc2 => ?_)
            · exact absurd zc2 (by omega)
            · refine j_aload_n hc dX11_run_42 rfl ?_
              refine j_get hc dX11_run_43 fX11_61 hS.1 rfl ?_
              refine j_iload hc dX11_run_46 rfl ?_
              refine j_iald hc dX11_run_48 hS.2.2.2.2.2.2.2.2.2.2.2.2.2.2.2.2.2.2.1 (by omega) (by omega) ?_
              rw [zcd1]
              refine j_istore (L' := [_, _, _, _, _, _, _, _, _, _, _, _, _]) hc dX11_run_49 (Nat.le_of_ble_eq_true rfl) rfl ?_
              refine j_iinc (L' := [_, _, _, _, _, _, _, _, _, _, _, _, _]) hc dX11_run_51 rfl (Nat.le_of_ble_eq_true rfl) rfl ?_
              refine j_aload_n hc dX11_run_54 rfl ?_
              refine j_get hc dX11_run_55 fX11_73 hS.1 rfl ?_
              refine j_iload hc dX11_run_58 rfl ?_
              refine j_iload hc dX11_run_60 rfl ?_
              refine j_if_ne (b := 0) (tgt := 71) hc dX11_run_62 (by decide) ⟨by omega, by omega⟩ (fun zc3 => ?_) (fun zc3 => ?_)
              · refine j_iload hc dX11_run_71 rfl ?_
                refine j_bipush hc dX11_run_73 (by decide) ?_
                refine j_icmp_ne (tgt := 84) hc dX11_run_75 (by decide) ⟨by omega, by omega⟩ ⟨by omega, by omega⟩ (fun zc4 => ?_) (fun zc4 => ?_)
                · exact absurd rfl zc4
                · refine j_iload hc dX11_run_78 rfl ?_
                  refine j_i2l hc dX11_run_80 ha ?_
                  refine j_goto (tgt := 126) hc dX11_run_81 (by decide) ?_
                  refine j_last hc dX11_run_126 zP (by omega) (by omega) ?_
                  generalize ezh1 : up _ _ _ = zh1
                  have zzmod_zh1 := MdS.mv ezh1 (by simp) hS
                  have zM30_zh1 := (congrFun ezh1 _).symm.trans (up_same _ _ _)
                  refine j_iinc (L' := [_, _, _, _, _, _, _, _, _, _, _, _, _]) hc dX11_run_127 rfl (Nat.le_of_ble_eq_true rfl) rfl ?_
                  refine j_goto (tgt := 196) hc dX11_run_130 (by decide) ?_
                  refine j_goto (tgt := 12) hc dX11_run_196 (by decide) ?_
                  exact ih _ (by omega) rest2 (a :: st) _ _ _ _ _ _ rfl (by simp only [List.length_cons]; omega) (by simp only [List.length_cons]; omega) (by have := hcd.tail; rw [zlen] at this; exact (by rw [show kk + 1 + 1 = kk + (2 : Nat) by omega]; exact this)) (fun y hy => htk y (List.mem_cons_of_mem _ hy)) (List.forall_mem_cons.mpr ⟨ha, hal⟩) zmo (by rw [ztop]; exact SkR_put hsk) zzmod_zh1 zM30_zh1 (by rw [← ezh1]; exact hfr.push rfl)
              · exact absurd zc3 (by omega)
        · have zcd1 : A 23 (kk + 1) = 115 := zcd1
          refine j_iload hc dX11_run_12 rfl ?_
          refine j_sipush hc dX11_run_14 (by decide) ?_
          refine j_iload_n hc dX11_run_17 rfl ?_
          refine j_imul hc dX11_run_18 ?_
          refine j_iload_n hc dX11_run_19 rfl ?_
          refine j_iadd hc dX11_run_20 ?_
          refine j_icmp_ge (tgt := 199) hc dX11_run_21 (by decide) ⟨by omega, by omega⟩ ⟨by omega, by omega⟩ (fun zc1 => ?_) (fun zc1 => ?_)
          · exact absurd zc1 (by omega)
          · refine j_aload_n hc dX11_run_24 rfl ?_
            refine j_get hc dX11_run_25 fX11_61 hS.1 rfl ?_
            refine j_iload hc dX11_run_28 rfl ?_
            refine j_iald hc dX11_run_30 hS.2.2.2.2.2.2.2.2.2.2.2.2.2.2.2.2.2.2.1 (by omega) (by omega) ?_
            rw [zcd0]
            refine j_istore (L' := [_, _, _, _, _, _, _, _, _, _, _, _, _]) hc dX11_run_31 (Nat.le_of_ble_eq_true rfl) rfl ?_
            refine j_iinc (L' := [_, _, _, _, _, _, _, _, _, _, _, _, _]) hc dX11_run_33 rfl (Nat.le_of_ble_eq_true rfl) rfl ?_
            refine j_iload hc dX11_run_36 rfl ?_
            refine j_iconst hc dX11_run_38 ?_
            refine j_icmp_ge (tgt := 133) hc dX11_run_39 (by decide) ⟨by omega, by omega⟩ ⟨by omega, by omega⟩ (fun zc2 => ?_) (fun zc2 => ?_)
            · exact absurd zc2 (by omega)
            · refine j_aload_n hc dX11_run_42 rfl ?_
              refine j_get hc dX11_run_43 fX11_61 hS.1 rfl ?_
              refine j_iload hc dX11_run_46 rfl ?_
              refine j_iald hc dX11_run_48 hS.2.2.2.2.2.2.2.2.2.2.2.2.2.2.2.2.2.2.1 (by omega) (by omega) ?_
              rw [zcd1]
              refine j_istore (L' := [_, _, _, _, _, _, _, _, _, _, _, _, _]) hc dX11_run_49 (Nat.le_of_ble_eq_true rfl) rfl ?_
              refine j_iinc (L' := [_, _, _, _, _, _, _, _, _, _, _, _, _]) hc dX11_run_51 rfl (Nat.le_of_ble_eq_true rfl) rfl ?_
              refine j_aload_n hc dX11_run_54 rfl ?_
              refine j_get hc dX11_run_55 fX11_73 hS.1 rfl ?_
              refine j_iload hc dX11_run_58 rfl ?_
              refine j_iload hc dX11_run_60 rfl ?_
              refine j_if_ne (b := 0) (tgt := 71) hc dX11_run_62 (by decide) ⟨by omega, by omega⟩ (fun zc3 => ?_) (fun zc3 => ?_)
              · refine j_iload hc dX11_run_71 rfl ?_
                refine j_bipush hc dX11_run_73 (by decide) ?_
                refine j_icmp_ne (tgt := 84) hc dX11_run_75 (by decide) ⟨by omega, by omega⟩ ⟨by omega, by omega⟩ (fun zc4 => ?_) (fun zc4 => ?_)
                · refine j_iload hc dX11_run_84 rfl ?_
                  refine j_bipush hc dX11_run_86 (by decide) ?_
                  refine j_icmp_ne (tgt := 97) hc dX11_run_88 (by decide) ⟨by omega, by omega⟩ ⟨by omega, by omega⟩ (fun zc5 => ?_) (fun zc5 => ?_)
                  · exact absurd rfl zc5
                  · refine j_iload hc dX11_run_91 rfl ?_
                    refine j_i2l hc dX11_run_93 ht ?_
                    refine j_goto (tgt := 126) hc dX11_run_94 (by decide) ?_
                    refine j_last hc dX11_run_126 zP (by omega) (by omega) ?_
                    generalize ezh1 : up _ _ _ = zh1
                    have zzmod_zh1 := MdS.mv ezh1 (by simp) hS
                    have zM30_zh1 := (congrFun ezh1 _).symm.trans (up_same _ _ _)
                    refine j_iinc (L' := [_, _, _, _, _, _, _, _, _, _, _, _, _]) hc dX11_run_127 rfl (Nat.le_of_ble_eq_true rfl) rfl ?_
                    refine j_goto (tgt := 196) hc dX11_run_130 (by decide) ?_
                    refine j_goto (tgt := 12) hc dX11_run_196 (by decide) ?_
                    exact ih _ (by omega) rest2 (t :: st) _ _ _ _ _ _ rfl (by simp only [List.length_cons]; omega) (by simp only [List.length_cons]; omega) (by have := hcd.tail; rw [zlen] at this; exact (by rw [show kk + 1 + 1 = kk + (2 : Nat) by omega]; exact this)) (fun y hy => htk y (List.mem_cons_of_mem _ hy)) (List.forall_mem_cons.mpr ⟨ht, hal⟩) zmo (by rw [ztop]; exact SkR_put hsk) zzmod_zh1 zM30_zh1 (by rw [← ezh1]; exact hfr.push rfl)
                · exact absurd zc4 (by decide)
              · exact absurd zc3 (by omega)
        · have zcd1 : A 23 (kk + 1) = 110 := zcd1
          refine j_iload hc dX11_run_12 rfl ?_
          refine j_sipush hc dX11_run_14 (by decide) ?_
          refine j_iload_n hc dX11_run_17 rfl ?_
          refine j_imul hc dX11_run_18 ?_
          refine j_iload_n hc dX11_run_19 rfl ?_
          refine j_iadd hc dX11_run_20 ?_
          refine j_icmp_ge (tgt := 199) hc dX11_run_21 (by decide) ⟨by omega, by omega⟩ ⟨by omega, by omega⟩ (fun zc1 => ?_) (fun zc1 => ?_)
          · exact absurd zc1 (by omega)
          · refine j_aload_n hc dX11_run_24 rfl ?_
            refine j_get hc dX11_run_25 fX11_61 hS.1 rfl ?_
            refine j_iload hc dX11_run_28 rfl ?_
            refine j_iald hc dX11_run_30 hS.2.2.2.2.2.2.2.2.2.2.2.2.2.2.2.2.2.2.1 (by omega) (by omega) ?_
            rw [zcd0]
            refine j_istore (L' := [_, _, _, _, _, _, _, _, _, _, _, _, _]) hc dX11_run_31 (Nat.le_of_ble_eq_true rfl) rfl ?_
            refine j_iinc (L' := [_, _, _, _, _, _, _, _, _, _, _, _, _]) hc dX11_run_33 rfl (Nat.le_of_ble_eq_true rfl) rfl ?_
            refine j_iload hc dX11_run_36 rfl ?_
            refine j_iconst hc dX11_run_38 ?_
            refine j_icmp_ge (tgt := 133) hc dX11_run_39 (by decide) ⟨by omega, by omega⟩ ⟨by omega, by omega⟩ (fun zc2 => ?_) (fun zc2 => ?_)
            · exact absurd zc2 (by omega)
            · refine j_aload_n hc dX11_run_42 rfl ?_
              refine j_get hc dX11_run_43 fX11_61 hS.1 rfl ?_
              refine j_iload hc dX11_run_46 rfl ?_
              refine j_iald hc dX11_run_48 hS.2.2.2.2.2.2.2.2.2.2.2.2.2.2.2.2.2.2.1 (by omega) (by omega) ?_
              rw [zcd1]
              refine j_istore (L' := [_, _, _, _, _, _, _, _, _, _, _, _, _]) hc dX11_run_49 (Nat.le_of_ble_eq_true rfl) rfl ?_
              refine j_iinc (L' := [_, _, _, _, _, _, _, _, _, _, _, _, _]) hc dX11_run_51 rfl (Nat.le_of_ble_eq_true rfl) rfl ?_
              refine j_aload_n hc dX11_run_54 rfl ?_
              refine j_get hc dX11_run_55 fX11_73 hS.1 rfl ?_
              refine j_iload hc dX11_run_58 rfl ?_
              refine j_iload hc dX11_run_60 rfl ?_
              refine j_if_ne (b := 0) (tgt := 71) hc dX11_run_62 (by decide) ⟨by omega, by omega⟩ (fun zc3 => ?_) (fun zc3 => ?_)
              · refine j_iload hc dX11_run_71 rfl ?_
                refine j_bipush hc dX11_run_73 (by decide) ?_
                refine j_icmp_ne (tgt := 84) hc dX11_run_75 (by decide) ⟨by omega, by omega⟩ ⟨by omega, by omega⟩ (fun zc4 => ?_) (fun zc4 => ?_)
                · refine j_iload hc dX11_run_84 rfl ?_
                  refine j_bipush hc dX11_run_86 (by decide) ?_
                  refine j_icmp_ne (tgt := 97) hc dX11_run_88 (by decide) ⟨by omega, by omega⟩ ⟨by omega, by omega⟩ (fun zc5 => ?_) (fun zc5 => ?_)
                  · refine j_iload hc dX11_run_97 rfl ?_
                    refine j_bipush hc dX11_run_99 (by decide) ?_
                    refine j_icmp_ne (tgt := 110) hc dX11_run_101 (by decide) ⟨by omega, by omega⟩ ⟨by omega, by omega⟩ (fun zc6 => ?_) (fun zc6 => ?_)
                    · exact absurd rfl zc6
                    · refine j_iload hc dX11_run_104 rfl ?_
                      refine j_i2l hc dX11_run_106 hn ?_
                      refine j_goto (tgt := 126) hc dX11_run_107 (by decide) ?_
                      refine j_last hc dX11_run_126 zP (by omega) (by omega) ?_
                      generalize ezh1 : up _ _ _ = zh1
                      have zzmod_zh1 := MdS.mv ezh1 (by simp) hS
                      have zM30_zh1 := (congrFun ezh1 _).symm.trans (up_same _ _ _)
                      refine j_iinc (L' := [_, _, _, _, _, _, _, _, _, _, _, _, _]) hc dX11_run_127 rfl (Nat.le_of_ble_eq_true rfl) rfl ?_
                      refine j_goto (tgt := 196) hc dX11_run_130 (by decide) ?_
                      refine j_goto (tgt := 12) hc dX11_run_196 (by decide) ?_
                      exact ih _ (by omega) rest2 (n :: st) _ _ _ _ _ _ rfl (by simp only [List.length_cons]; omega) (by simp only [List.length_cons]; omega) (by have := hcd.tail; rw [zlen] at this; exact (by rw [show kk + 1 + 1 = kk + (2 : Nat) by omega]; exact this)) (fun y hy => htk y (List.mem_cons_of_mem _ hy)) (List.forall_mem_cons.mpr ⟨hn, hal⟩) zmo (by rw [ztop]; exact SkR_put hsk) zzmod_zh1 zM30_zh1 (by rw [← ezh1]; exact hfr.push rfl)
                  · exact absurd zc5 (by decide)
                · exact absurd zc4 (by decide)
              · exact absurd zc3 (by omega)
        · have zcd1 : A 23 (kk + 1) = 112 := zcd1
          refine j_iload hc dX11_run_12 rfl ?_
          refine j_sipush hc dX11_run_14 (by decide) ?_
          refine j_iload_n hc dX11_run_17 rfl ?_
          refine j_imul hc dX11_run_18 ?_
          refine j_iload_n hc dX11_run_19 rfl ?_
          refine j_iadd hc dX11_run_20 ?_
          refine j_icmp_ge (tgt := 199) hc dX11_run_21 (by decide) ⟨by omega, by omega⟩ ⟨by omega, by omega⟩ (fun zc1 => ?_) (fun zc1 => ?_)
          · exact absurd zc1 (by omega)
          · refine j_aload_n hc dX11_run_24 rfl ?_
            refine j_get hc dX11_run_25 fX11_61 hS.1 rfl ?_
            refine j_iload hc dX11_run_28 rfl ?_
            refine j_iald hc dX11_run_30 hS.2.2.2.2.2.2.2.2.2.2.2.2.2.2.2.2.2.2.1 (by omega) (by omega) ?_
            rw [zcd0]
            refine j_istore (L' := [_, _, _, _, _, _, _, _, _, _, _, _, _]) hc dX11_run_31 (Nat.le_of_ble_eq_true rfl) rfl ?_
            refine j_iinc (L' := [_, _, _, _, _, _, _, _, _, _, _, _, _]) hc dX11_run_33 rfl (Nat.le_of_ble_eq_true rfl) rfl ?_
            refine j_iload hc dX11_run_36 rfl ?_
            refine j_iconst hc dX11_run_38 ?_
            refine j_icmp_ge (tgt := 133) hc dX11_run_39 (by decide) ⟨by omega, by omega⟩ ⟨by omega, by omega⟩ (fun zc2 => ?_) (fun zc2 => ?_)
            · exact absurd zc2 (by omega)
            · refine j_aload_n hc dX11_run_42 rfl ?_
              refine j_get hc dX11_run_43 fX11_61 hS.1 rfl ?_
              refine j_iload hc dX11_run_46 rfl ?_
              refine j_iald hc dX11_run_48 hS.2.2.2.2.2.2.2.2.2.2.2.2.2.2.2.2.2.2.1 (by omega) (by omega) ?_
              rw [zcd1]
              refine j_istore (L' := [_, _, _, _, _, _, _, _, _, _, _, _, _]) hc dX11_run_49 (Nat.le_of_ble_eq_true rfl) rfl ?_
              refine j_iinc (L' := [_, _, _, _, _, _, _, _, _, _, _, _, _]) hc dX11_run_51 rfl (Nat.le_of_ble_eq_true rfl) rfl ?_
              refine j_aload_n hc dX11_run_54 rfl ?_
              refine j_get hc dX11_run_55 fX11_73 hS.1 rfl ?_
              refine j_iload hc dX11_run_58 rfl ?_
              refine j_iload hc dX11_run_60 rfl ?_
              refine j_if_ne (b := 0) (tgt := 71) hc dX11_run_62 (by decide) ⟨by omega, by omega⟩ (fun zc3 => ?_) (fun zc3 => ?_)
              · refine j_iload hc dX11_run_71 rfl ?_
                refine j_bipush hc dX11_run_73 (by decide) ?_
                refine j_icmp_ne (tgt := 84) hc dX11_run_75 (by decide) ⟨by omega, by omega⟩ ⟨by omega, by omega⟩ (fun zc4 => ?_) (fun zc4 => ?_)
                · refine j_iload hc dX11_run_84 rfl ?_
                  refine j_bipush hc dX11_run_86 (by decide) ?_
                  refine j_icmp_ne (tgt := 97) hc dX11_run_88 (by decide) ⟨by omega, by omega⟩ ⟨by omega, by omega⟩ (fun zc5 => ?_) (fun zc5 => ?_)
                  · refine j_iload hc dX11_run_97 rfl ?_
                    refine j_bipush hc dX11_run_99 (by decide) ?_
                    refine j_icmp_ne (tgt := 110) hc dX11_run_101 (by decide) ⟨by omega, by omega⟩ ⟨by omega, by omega⟩ (fun zc6 => ?_) (fun zc6 => ?_)
                    · refine j_iload hc dX11_run_110 rfl ?_
                      refine j_bipush hc dX11_run_112 (by decide) ?_
                      refine j_icmp_ne (tgt := 123) hc dX11_run_114 (by decide) ⟨by omega, by omega⟩ ⟨by omega, by omega⟩ (fun zc7 => ?_) (fun zc7 => ?_)
                      · exact absurd rfl zc7
                      · refine j_iload hc dX11_run_117 rfl ?_
                        refine j_i2l hc dX11_run_119 hp ?_
                        refine j_goto (tgt := 126) hc dX11_run_120 (by decide) ?_
                        refine j_last hc dX11_run_126 zP (by omega) (by omega) ?_
                        generalize ezh1 : up _ _ _ = zh1
                        have zzmod_zh1 := MdS.mv ezh1 (by simp) hS
                        have zM30_zh1 := (congrFun ezh1 _).symm.trans (up_same _ _ _)
                        refine j_iinc (L' := [_, _, _, _, _, _, _, _, _, _, _, _, _]) hc dX11_run_127 rfl (Nat.le_of_ble_eq_true rfl) rfl ?_
                        refine j_goto (tgt := 196) hc dX11_run_130 (by decide) ?_
                        refine j_goto (tgt := 12) hc dX11_run_196 (by decide) ?_
                        exact ih _ (by omega) rest2 (p :: st) _ _ _ _ _ _ rfl (by simp only [List.length_cons]; omega) (by simp only [List.length_cons]; omega) (by have := hcd.tail; rw [zlen] at this; exact (by rw [show kk + 1 + 1 = kk + (2 : Nat) by omega]; exact this)) (fun y hy => htk y (List.mem_cons_of_mem _ hy)) (List.forall_mem_cons.mpr ⟨hp, hal⟩) zmo (by rw [ztop]; exact SkR_put hsk) zzmod_zh1 zM30_zh1 (by rw [← ezh1]; exact hfr.push rfl)
                    · exact absurd zc6 (by decide)
                  · exact absurd zc5 (by decide)
                · exact absurd zc4 (by decide)
              · exact absurd zc3 (by omega)
        · have zcd1 : A 23 (kk + 1) = 114 := zcd1
          refine j_iload hc dX11_run_12 rfl ?_
          refine j_sipush hc dX11_run_14 (by decide) ?_
          refine j_iload_n hc dX11_run_17 rfl ?_
          refine j_imul hc dX11_run_18 ?_
          refine j_iload_n hc dX11_run_19 rfl ?_
          refine j_iadd hc dX11_run_20 ?_
          refine j_icmp_ge (tgt := 199) hc dX11_run_21 (by decide) ⟨by omega, by omega⟩ ⟨by omega, by omega⟩ (fun zc1 => ?_) (fun zc1 => ?_)
          · exact absurd zc1 (by omega)
          · refine j_aload_n hc dX11_run_24 rfl ?_
            refine j_get hc dX11_run_25 fX11_61 hS.1 rfl ?_
            refine j_iload hc dX11_run_28 rfl ?_
            refine j_iald hc dX11_run_30 hS.2.2.2.2.2.2.2.2.2.2.2.2.2.2.2.2.2.2.1 (by omega) (by omega) ?_
            rw [zcd0]
            refine j_istore (L' := [_, _, _, _, _, _, _, _, _, _, _, _, _]) hc dX11_run_31 (Nat.le_of_ble_eq_true rfl) rfl ?_
            refine j_iinc (L' := [_, _, _, _, _, _, _, _, _, _, _, _, _]) hc dX11_run_33 rfl (Nat.le_of_ble_eq_true rfl) rfl ?_
            refine j_iload hc dX11_run_36 rfl ?_
            refine j_iconst hc dX11_run_38 ?_
            refine j_icmp_ge (tgt := 133) hc dX11_run_39 (by decide) ⟨by omega, by omega⟩ ⟨by omega, by omega⟩ (fun zc2 => ?_) (fun zc2 => ?_)
            · exact absurd zc2 (by omega)
            · refine j_aload_n hc dX11_run_42 rfl ?_
              refine j_get hc dX11_run_43 fX11_61 hS.1 rfl ?_
              refine j_iload hc dX11_run_46 rfl ?_
              refine j_iald hc dX11_run_48 hS.2.2.2.2.2.2.2.2.2.2.2.2.2.2.2.2.2.2.1 (by omega) (by omega) ?_
              rw [zcd1]
              refine j_istore (L' := [_, _, _, _, _, _, _, _, _, _, _, _, _]) hc dX11_run_49 (Nat.le_of_ble_eq_true rfl) rfl ?_
              refine j_iinc (L' := [_, _, _, _, _, _, _, _, _, _, _, _, _]) hc dX11_run_51 rfl (Nat.le_of_ble_eq_true rfl) rfl ?_
              refine j_aload_n hc dX11_run_54 rfl ?_
              refine j_get hc dX11_run_55 fX11_73 hS.1 rfl ?_
              refine j_iload hc dX11_run_58 rfl ?_
              refine j_iload hc dX11_run_60 rfl ?_
              refine j_if_ne (b := 0) (tgt := 71) hc dX11_run_62 (by decide) ⟨by omega, by omega⟩ (fun zc3 => ?_) (fun zc3 => ?_)
              · refine j_iload hc dX11_run_71 rfl ?_
                refine j_bipush hc dX11_run_73 (by decide) ?_
                refine j_icmp_ne (tgt := 84) hc dX11_run_75 (by decide) ⟨by omega, by omega⟩ ⟨by omega, by omega⟩ (fun zc4 => ?_) (fun zc4 => ?_)
                · refine j_iload hc dX11_run_84 rfl ?_
                  refine j_bipush hc dX11_run_86 (by decide) ?_
                  refine j_icmp_ne (tgt := 97) hc dX11_run_88 (by decide) ⟨by omega, by omega⟩ ⟨by omega, by omega⟩ (fun zc5 => ?_) (fun zc5 => ?_)
                  · refine j_iload hc dX11_run_97 rfl ?_
                    refine j_bipush hc dX11_run_99 (by decide) ?_
                    refine j_icmp_ne (tgt := 110) hc dX11_run_101 (by decide) ⟨by omega, by omega⟩ ⟨by omega, by omega⟩ (fun zc6 => ?_) (fun zc6 => ?_)
                    · refine j_iload hc dX11_run_110 rfl ?_
                      refine j_bipush hc dX11_run_112 (by decide) ?_
                      refine j_icmp_ne (tgt := 123) hc dX11_run_114 (by decide) ⟨by omega, by omega⟩ ⟨by omega, by omega⟩ (fun zc7 => ?_) (fun zc7 => ?_)
                      · refine j_iload hc dX11_run_123 rfl ?_
                        refine j_i2l hc dX11_run_125 hmy ?_
                        refine j_last hc dX11_run_126 zP (by omega) (by omega) ?_
                        generalize ezh1 : up _ _ _ = zh1
                        have zzmod_zh1 := MdS.mv ezh1 (by simp) hS
                        have zM30_zh1 := (congrFun ezh1 _).symm.trans (up_same _ _ _)
                        refine j_iinc (L' := [_, _, _, _, _, _, _, _, _, _, _, _, _]) hc dX11_run_127 rfl (Nat.le_of_ble_eq_true rfl) rfl ?_
                        refine j_goto (tgt := 196) hc dX11_run_130 (by decide) ?_
                        refine j_goto (tgt := 12) hc dX11_run_196 (by decide) ?_
                        exact ih _ (by omega) rest2 (my :: st) _ _ _ _ _ _ rfl (by simp only [List.length_cons]; omega) (by simp only [List.length_cons]; omega) (by have := hcd.tail; rw [zlen] at this; exact (by rw [show kk + 1 + 1 = kk + (2 : Nat) by omega]; exact this)) (fun y hy => htk y (List.mem_cons_of_mem _ hy)) (List.forall_mem_cons.mpr ⟨hmy, hal⟩) zmo (by rw [ztop]; exact SkR_put hsk) zzmod_zh1 zM30_zh1 (by rw [← ezh1]; exact hfr.push rfl)
                      · exact absurd zc7 (by decide)
                    · exact absurd zc6 (by decide)
                  · exact absurd zc5 (by decide)
                · exact absurd zc4 (by decide)
              · exact absurd zc3 (by omega)
      by_cases hx15 : x = -15
      · subst hx15
        have zcd0 : A 23 kk = 33 := zh3 (by omega)
        have zlen : (trT (-15)).length = 1 := rfl
        obtain ⟨v2, st2, zst, zs2, zv01⟩ := moO_x zo
        have hnI : inI (1 - v2) := by rcases zv01 with z | z <;> (rw [z]; exact ⟨by omega, by omega⟩)
        subst zst
        rw [zs2] at zmo
        have zll : ((v2 :: st2).length : Int) = st2.length + 1 := by simp
        have hvI := hal v2 List.mem_cons_self
        have zv : g (top - 1) = v2 := by rw [show top - 1 = (st2.length : Int) by omega]; exact hsk.1
        refine j_iload hc dX11_run_12 rfl ?_
        refine j_sipush hc dX11_run_14 (by decide) ?_
        refine j_iload_n hc dX11_run_17 rfl ?_
        refine j_imul hc dX11_run_18 ?_
        refine j_iload_n hc dX11_run_19 rfl ?_
        refine j_iadd hc dX11_run_20 ?_
        refine j_icmp_ge (tgt := 199) hc dX11_run_21 (by decide) ⟨by omega, by omega⟩ ⟨by omega, by omega⟩ (fun zc1 => ?_) (fun zc1 => ?_)
        · exact absurd zc1 (by omega)
        · refine j_aload_n hc dX11_run_24 rfl ?_
          refine j_get hc dX11_run_25 fX11_61 hS.1 rfl ?_
          refine j_iload hc dX11_run_28 rfl ?_
          refine j_iald hc dX11_run_30 hS.2.2.2.2.2.2.2.2.2.2.2.2.2.2.2.2.2.2.1 (by omega) (by omega) ?_
          rw [zcd0]
          refine j_istore (L' := [_, _, _, _, _, _, _, _, _, _, _, _, _]) hc dX11_run_31 (Nat.le_of_ble_eq_true rfl) rfl ?_
          refine j_iinc (L' := [_, _, _, _, _, _, _, _, _, _, _, _, _]) hc dX11_run_33 rfl (Nat.le_of_ble_eq_true rfl) rfl ?_
          refine j_iload hc dX11_run_36 rfl ?_
          refine j_iconst hc dX11_run_38 ?_
          refine j_icmp_ge (tgt := 133) hc dX11_run_39 (by decide) ⟨by omega, by omega⟩ ⟨by omega, by omega⟩ (fun zc2 => ?_) (fun zc2 => ?_)
          · refine j_iload hc dX11_run_133 rfl ?_
            refine j_bipush hc dX11_run_135 (by decide) ?_
            refine j_icmp_ne (tgt := 163) hc dX11_run_137 (by decide) ⟨by omega, by omega⟩ ⟨by omega, by omega⟩ (fun zc3 => ?_) (fun zc3 => ?_)
            · exact absurd rfl zc3
            · refine j_aload_n hc dX11_run_140 rfl ?_
              refine j_get hc dX11_run_141 fX11_73 hS.1 rfl ?_
              refine j_iload hc dX11_run_144 rfl ?_
              refine j_iconst hc dX11_run_146 ?_
              refine j_isub hc dX11_run_147 ?_
              refine j_lconst (x := 1) hc dX11_run_148 (by decide) ?_
              refine j_aload_n hc dX11_run_149 rfl ?_
              refine j_get hc dX11_run_150 fX11_73 hS.1 rfl ?_
              refine j_iload hc dX11_run_153 rfl ?_
              refine j_iconst hc dX11_run_155 ?_
              refine j_isub hc dX11_run_156 ?_
              refine j_lald hc dX11_run_157 zP (by omega) (by omega) ?_
              rw [zv]
              refine j_lsub hc dX11_run_158 ?_
              refine j_last hc dX11_run_159 zP (by omega) (by omega) ?_
              generalize ezh1 : up _ _ _ = zh1
              have zzmod_zh1 := MdS.mv ezh1 (by simp) hS
              have zM30_zh1 := (congrFun ezh1 _).symm.trans (up_same _ _ _)
              refine j_goto (tgt := 196) hc dX11_run_160 (by decide) ?_
              refine j_goto (tgt := 12) hc dX11_run_196 (by decide) ?_
              exact ih _ (by omega) rest2 ((1 - v2) :: st2) _ _ _ _ _ _ rfl (by simp only [List.length_cons]; omega) (by simp only [List.length_cons]; omega) (by have := hcd.tail; rw [zlen] at this; exact (by rw [show kk + 1 = kk + (1 : Nat) by omega]; exact this)) (fun y hy => htk y (List.mem_cons_of_mem _ hy)) (List.forall_mem_cons.mpr ⟨hnI, fun y hy => hal y (List.mem_cons_of_mem _ hy)⟩) zmo (by rw [show top - 1 = (st2.length : Int) by omega]; exact SkR_put hsk.2) zzmod_zh1 zM30_zh1 (by rw [← ezh1]; exact hfr.push rfl)
          · exact absurd zc2 (by omega)
      · have zcd0 : A 23 kk = sch x := zh3 (by omega)
        have zlen : (trT x).length = 1 := by unfold trT; rw [if_neg (by omega), if_neg (by omega)]; rfl
        have hx0 : -14 ≤ x := by omega
        have hx1 : x ≤ -6 := by omega
        have zsb := sch_b hx0 hx1
        obtain ⟨v2, u2, st2, zst, zs2⟩ := moO_b hx0 hx1 zo
        subst zst
        rw [zs2] at zmo
        have zll : ((v2 :: u2 :: st2).length : Int) = st2.length + 2 := by simp only [List.length_cons]; omega
        have hvI := hal v2 List.mem_cons_self
        have huI := hal u2 (List.mem_cons_of_mem _ List.mem_cons_self)
        have zl3 : ((u2 :: st2).length : Int) = st2.length + 1 := by simp only [List.length_cons]; omega
        have zv : g (top + -1) = v2 := by rw [show top + -1 = ((u2 :: st2).length : Int) by omega]; exact hsk.1
        have zu : g (top + -1 - 1) = u2 := by rw [show top + -1 - 1 = (st2.length : Int) by omega]; exact hsk.2.1
        refine j_iload hc dX11_run_12 rfl ?_
        refine j_sipush hc dX11_run_14 (by decide) ?_
        refine j_iload_n hc dX11_run_17 rfl ?_
        refine j_imul hc dX11_run_18 ?_
        refine j_iload_n hc dX11_run_19 rfl ?_
        refine j_iadd hc dX11_run_20 ?_
        refine j_icmp_ge (tgt := 199) hc dX11_run_21 (by decide) ⟨by omega, by omega⟩ ⟨by omega, by omega⟩ (fun zc1 => ?_) (fun zc1 => ?_)
        · exact absurd zc1 (by omega)
        · refine j_aload_n hc dX11_run_24 rfl ?_
          refine j_get hc dX11_run_25 fX11_61 hS.1 rfl ?_
          refine j_iload hc dX11_run_28 rfl ?_
          refine j_iald hc dX11_run_30 hS.2.2.2.2.2.2.2.2.2.2.2.2.2.2.2.2.2.2.1 (by omega) (by omega) ?_
          rw [zcd0]
          refine j_istore (L' := [_, _, _, _, _, _, _, _, _, _, _, _, _]) hc dX11_run_31 (Nat.le_of_ble_eq_true rfl) rfl ?_
          refine j_iinc (L' := [_, _, _, _, _, _, _, _, _, _, _, _, _]) hc dX11_run_33 rfl (Nat.le_of_ble_eq_true rfl) rfl ?_
          refine j_iload hc dX11_run_36 rfl ?_
          refine j_iconst hc dX11_run_38 ?_
          refine j_icmp_ge (tgt := 133) hc dX11_run_39 (by decide) ⟨by omega, by omega⟩ ⟨by omega, by omega⟩ (fun zc2 => ?_) (fun zc2 => ?_)
          · refine j_iload hc dX11_run_133 rfl ?_
            refine j_bipush hc dX11_run_135 (by decide) ?_
            refine j_icmp_ne (tgt := 163) hc dX11_run_137 (by decide) ⟨by omega, by omega⟩ ⟨by omega, by omega⟩ (fun zc3 => ?_) (fun zc3 => ?_)
            · refine j_iinc (L' := [_, _, _, _, _, _, _, _, _, _, _, _, _]) hc dX11_run_163 rfl (Nat.le_of_ble_eq_true rfl) rfl ?_
              refine j_aload_n hc dX11_run_166 rfl ?_
              refine j_get hc dX11_run_167 fX11_73 hS.1 rfl ?_
              refine j_iload hc dX11_run_170 rfl ?_
              refine j_iconst hc dX11_run_172 ?_
              refine j_isub hc dX11_run_173 ?_
              refine j_iload hc dX11_run_174 rfl ?_
              refine j_aload_n hc dX11_run_176 rfl ?_
              refine j_get hc dX11_run_177 fX11_73 hS.1 rfl ?_
              refine j_iload hc dX11_run_180 rfl ?_
              refine j_iconst hc dX11_run_182 ?_
              refine j_isub hc dX11_run_183 ?_
              refine j_lald hc dX11_run_184 zP (by omega) (by omega) ?_
              rw [zu]
              refine j_aload_n hc dX11_run_185 rfl ?_
              refine j_get hc dX11_run_186 fX11_73 hS.1 rfl ?_
              refine j_iload hc dX11_run_189 rfl ?_
              refine j_lald hc dX11_run_191 zP (by omega) (by omega) ?_
              rw [zv]
              refine j_callS (d' := d - 1) hc dX11_run_192 sX11_246 (ev_X11_both (by omega) hx0 hx1 huI hvI) rfl (by omega) (by omega) (by omega) rfl rfl (Nat.le_of_ble_eq_true rfl) (ret1 ?_)
              refine j_last hc dX11_run_195 zP (by omega) (by omega) ?_
              generalize ezh1 : up _ _ _ = zh1
              have zzmod_zh1 := MdS.mv ezh1 (by simp) hS
              have zM30_zh1 := (congrFun ezh1 _).symm.trans (up_same _ _ _)
              refine j_goto (tgt := 12) hc dX11_run_196 (by decide) ?_
              exact ih _ (by omega) rest2 (boS x u2 v2 :: st2) _ _ _ _ _ _ rfl (by simp only [List.length_cons]; omega) (by simp only [List.length_cons]; omega) (by have := hcd.tail; rw [zlen] at this; exact (by rw [show kk + 1 = kk + (1 : Nat) by omega]; exact this)) (fun y hy => htk y (List.mem_cons_of_mem _ hy)) (List.forall_mem_cons.mpr ⟨boS_b, fun y hy => hal y (List.mem_cons_of_mem _ (List.mem_cons_of_mem _ hy))⟩) zmo (by rw [show top + -1 - 1 = (st2.length : Int) by omega]; exact SkR_put hsk.2.2) zzmod_zh1 zM30_zh1 (by rw [← ezh1]; exact hfr.push rfl)
            · exact absurd zc3 (by omega)
          · exact absurd zc2 (by omega)
