/-! ===== the reference reads a rule: what is said ===== -/
abbrev isRm : Nm → Prop := fun z => z = (70, 0) ∨ z = (223, 0)
def SmE (s s' : Int → Int) : Prop := ∀ k : Int, k ≠ 3 → k ≠ 4 → k ≠ 5 → k ≠ 29 → s' k = s k
theorem SmE.rf (s : Int → Int) : SmE s s := fun _ _ _ _ _ => rfl
theorem SmE.f3 {s s' : Int → Int} {v : Int} (h : SmE s s') : SmE s (fu s' 3 v) := fun k h3 h4 h5 h6 => (fu_ne h3).trans (h k h3 h4 h5 h6)
theorem SmE.f4 {s s' : Int → Int} {v : Int} (h : SmE s s') : SmE s (fu s' 4 v) := fun k h3 h4 h5 h6 => (fu_ne h4).trans (h k h3 h4 h5 h6)
theorem SmE.f5 {s s' : Int → Int} {v : Int} (h : SmE s s') : SmE s (fu s' 5 v) := fun k h3 h4 h5 h6 => (fu_ne h5).trans (h k h3 h4 h5 h6)
theorem SmE.f29 {s s' : Int → Int} {v : Int} (h : SmE s s') : SmE s (fu s' 29 v) := fun k h3 h4 h5 h6 => (fu_ne h6).trans (h k h3 h4 h5 h6)
theorem SmE.tr {s s' s2 : Int → Int} (h : SmE s s') (h2 : SmE s' s2) : SmE s s2 := fun k h3 h4 h5 h6 => (h2 k h3 h4 h5 h6).trans (h k h3 h4 h5 h6)
theorem SmE.rd {s s' : Int → Int} {A A' : MAs} {b : Int → Int} {n : Int} (h : SmE s s') (hT : RdM s A b n) (hA : A' 1 = A 1) : RdM s' A' b n := ⟨(h 2 (by omega) (by omega) (by omega) (by omega)).trans hT.1, hT.2.1, fun j j0 j1 => ⟨(congrFun hA j).trans (hT.2.2 j j0 j1).1, (hT.2.2 j j0 j1).2⟩⟩
theorem SmE.in_ {s s' : Int → Int} {r : Int} (h : SmE s s') (hr : s 28 = r) : s' 28 = r := (h 28 (by omega) (by omega) (by omega) (by omega)).trans hr
/-- nothing is wrong: read to j, t is said -/
def Gs (s0 a0 : Int → Int) (r j : Int) (t : List Int) (s g : Int → Int) : Prop := SmE s0 s ∧ s 4 = -1 ∧ s 3 = j ∧ s 29 = s0 29 + t.length ∧ (∀ z : Int, z < 400 * r + s0 29 ∨ 400 * r + 400 ≤ z → g z = a0 z) ∧ ∀ i : Nat, i < t.length → g (400 * r + s0 29 + i) = t.getD i 0
/-- something is wrong at f -/
def Bs (s0 a0 : Int → Int) (r f : Int) (s g : Int → Int) : Prop := SmE s0 s ∧ s 4 = f ∧ f ≠ -1 ∧ s0 29 ≤ s 29 ∧ ∀ z : Int, z < 400 * r + s0 29 ∨ 400 * r + 400 ≤ z → g z = a0 z
def ExG (s a0 : Int → Int) (n r : Int) (R : RP) (s' g : Int → Int) : Prop := s' 5 = s 5 ∧ 2 * s' 29 ≤ 2 * s 29 + 3 * (n - s 3) + 1 ∧ (R.1 ≠ -1 → Bs s a0 r R.1 s' g) ∧ (R.1 = -1 → Gs s a0 r R.2.1 (trL R.2.2) s' g ∧ 2 * s' 29 ≤ 2 * s 29 + 3 * (R.2.1 - s 3) + 1)
def ExP (s : Int → Int) (A : MAs) (n r : Int) (R : RP) (h : AH) : Option AV → AH → Prop := pn fun h' => ∃ s' g : Int → Int, ExG s (A 23) n r R s' g ∧ MdS h' s' (fuA A 23 g) ∧ Fr isRm h h'
def NtM (k : WC) (y : MD) (ext : List AV) (b : Int → Int) (n r dp : Int) (c : Nat) (Q : Int → RP) : Prop := ∀ (d : Nat) (h : AH) (s : Int → Int) (A : MAs), c ≤ d → MdS h s A → RdM s A b n → 0 ≤ s 3 → s 3 ≤ n → s 4 = -1 → s 5 = dp → s 28 = r → 0 ≤ s 29 → 2 * s 29 + 3 * (n - s 3) ≤ 790 → Ev k d y h (vR (70, 0) :: ext) 0 0 (ExP s A n r (Q (s 3)) h)
theorem Gs.st {s : Int → Int} (a0 : Int → Int) (r : Int) (h4 : s 4 = -1) : Gs s a0 r (s 3) [] s a0 := ⟨SmE.rf s, h4, rfl, by show s 29 = s 29 + 0; omega, fun _ _ => rfl, fun i hi => absurd hi (Nat.not_lt_zero _)⟩
theorem Gs.at_ {s0 a0 s g : Int → Int} {r j j' : Int} {t : List Int} (h : Gs s0 a0 r j t s g) : Gs s0 a0 r j' t (fu s 3 j') g := ⟨h.1.f3, h.2.1, rfl, h.2.2.2.1, h.2.2.2.2⟩
theorem Gs.dp {s0 a0 s g : Int → Int} {r j v : Int} {t : List Int} (h : Gs s0 a0 r j t s g) : Gs s0 a0 r j t (fu s 5 v) g := ⟨h.1.f5, h.2.1, h.2.2.1, h.2.2.2.1, h.2.2.2.2⟩
theorem Bs.dp {s0 a0 s g : Int → Int} {r f v : Int} (h : Bs s0 a0 r f s g) : Bs s0 a0 r f (fu s 5 v) g := ⟨h.1.f5, h.2.1, h.2.2.1, h.2.2.2.1, h.2.2.2.2⟩
theorem Bs.at_ {s0 a0 s g : Int → Int} {r f v : Int} (h : Bs s0 a0 r f s g) : Bs s0 a0 r f (fu s 3 v) g := ⟨h.1.f3, h.2.1, h.2.2.1, h.2.2.2.1, h.2.2.2.2⟩
theorem Gs.wrong {s0 a0 s g : Int → Int} {r j f : Int} {t : List Int} (h : Gs s0 a0 r j t s g) (hf : f ≠ -1) : Bs s0 a0 r f (fu s 4 f) g := ⟨h.1.f4, rfl, hf, by show s0 29 ≤ s 29; have := h.2.2.2.1; omega, h.2.2.2.2.1⟩
theorem Gs.say {s0 a0 s g : Int → Int} {r j c : Int} {t : List Int} (h : Gs s0 a0 r j t s g) (hb : s 29 < 400) : Gs s0 a0 r j (t ++ [c]) (fu s 29 (s 29 + 1)) (fu g (400 * r + s 29) c) := by
  obtain ⟨h1, h2, h3, h4, h5, h6⟩ := h
  refine ⟨h1.f29, h2, h3, ?_, fun z hz => (fu_ne (by omega)).trans (h5 z hz), fun i hi => ?_⟩
  · show s 29 + 1 = s0 29 + ((t ++ [c]).length : Nat)
    rw [List.length_append, h4]
    simp only [List.length_cons, List.length_nil]
    omega
  · rw [List.length_append] at hi
    simp only [List.length_cons, List.length_nil] at hi
    rw [List.getD_eq_getElem?_getD]
    by_cases e : i = t.length
    · rw [show 400 * r + s0 29 + (i : Int) = 400 * r + s 29 by omega, fu_same, e, List.getElem?_append_right (Nat.le_refl _), Nat.sub_self]
      rfl
    · rw [fu_ne (by omega), List.getElem?_append_left (by omega), ← List.getD_eq_getElem?_getD]
      exact h6 i (by omega)
theorem Bs.say {s0 a0 s g : Int → Int} {r f c : Int} (h : Bs s0 a0 r f s g) (hb : s 29 < 400) : Bs s0 a0 r f (fu s 29 (s 29 + 1)) (fu g (400 * r + s 29) c) := by
  obtain ⟨h1, h2, h3, h4, h5⟩ := h
  exact ⟨h1.f29, h2, h3, by show s0 29 ≤ s 29 + 1; omega, fun z hz => (fu_ne (by omega)).trans (h5 z hz)⟩
theorem Gs.seq {s0 a0 s g s' g' : Int → Int} {r j j2 : Int} {t u : List Int} (h : Gs s0 a0 r j t s g) (k : Gs s g r j2 u s' g') : Gs s0 a0 r j2 (t ++ u) s' g' := by
  obtain ⟨h1, h2, h3, h4, h5, h6⟩ := h
  obtain ⟨k1, k2, k3, k4, k5, k6⟩ := k
  refine ⟨h1.tr k1, k2, k3, by rw [k4, h4, List.length_append]; omega, fun z hz => (k5 z (by omega)).trans (h5 z hz), fun i hi => ?_⟩
  rw [List.length_append] at hi
  rw [List.getD_eq_getElem?_getD]
  by_cases e : i < t.length
  · rw [k5 _ (by omega), List.getElem?_append_left e, ← List.getD_eq_getElem?_getD]
    exact h6 i e
  · rw [List.getElem?_append_right (by omega), ← List.getD_eq_getElem?_getD, ← k6 (i - t.length) (by omega)]
    congr 1
    omega
theorem Gs.bad {s0 a0 s g s' g' : Int → Int} {r j f : Int} {t : List Int} (h : Gs s0 a0 r j t s g) (k : Bs s g r f s' g') : Bs s0 a0 r f s' g' := by
  obtain ⟨h1, h2, h3, h4, h5, h6⟩ := h
  obtain ⟨k1, k2, k3, k4, k5⟩ := k
  exact ⟨h1.tr k1, k2, k3, by omega, fun z hz => (k5 z (by omega)).trans (h5 z hz)⟩
theorem trL_1 (x : Int) : trL [x] = trT x := by unfold trL; simp
theorem fuA_at (A : MAs) (k : Int) (g : Int → Int) : fuA A k g k = g := by unfold fuA; exact if_pos rfl
set_option maxRecDepth 100000 in
set_option maxHeartbeats 4000000 in
theorem ev_X11_say {k : WC} {d : Nat} {h : AH} {s : Int → Int} {A : MAs} {r c : Int} (hd : 1 ≤ d) (hS : MdS h s A) (hr0 : 0 ≤ r) (hr6 : r ≤ 6) (h28 : s 28 = r) (h290 : 0 ≤ s 29) (h291 : s 29 < 400) : Ev k d mdX11_say h [vR (70, 0), vI c] 0 0 (pn fun h' => MdS h' (fu s 29 (s 29 + 1)) (fuA A 23 (fu (A 23) (400 * r + s 29) c)) ∧ Fr isRm h h') := by
  refine Ev.mk (by decide +kernel) [_, _] rfl (Nat.le_of_ble_eq_true rfl) (fun w hc he => ?_)
  refine j_aload_n hc dX11_say_0 rfl ?_
  refine j_get hc dX11_say_1 fX11_61 hS.1 rfl ?_
  refine j_sipush hc dX11_say_4 (by decide) ?_
  refine j_aload_n hc dX11_say_7 rfl ?_
  refine j_get hc dX11_say_8 fX11_174 hS.1 rfl ?_
  rw [h28]
  refine j_imul hc dX11_say_11 ?_
  refine j_aload_n hc dX11_say_12 rfl ?_
  refine j_get hc dX11_say_13 fX11_177 hS.1 rfl ?_
  refine j_iadd hc dX11_say_16 ?_
  refine j_iload_n hc dX11_say_17 rfl ?_
  refine j_iast hc dX11_say_18 hS.2.2.2.2.2.2.2.2.2.2.2.2.2.2.2.2.2.2.1 (by omega) (by omega) ?_
  generalize ezh1 : up _ _ _ = zh1
  have zzmod_zh1 := MdS.pa_23 ezh1 hS
  refine j_aload_n hc dX11_say_19 rfl ?_
  refine j_dup hc dX11_say_20 rfl ?_
  refine j_get hc dX11_say_21 fX11_177 zzmod_zh1.1 rfl ?_
  refine j_iconst hc dX11_say_24 ?_
  refine j_iadd hc dX11_say_25 ?_
  refine j_put  hc dX11_say_26 pX11_177 zzmod_zh1.1 rfl mset_29 ?_
  generalize ezh2 : up _ _ _ = zh2
  have zzmod_zh2 := MdS.pf ezh2 zzmod_zh1
  exact j_vret hc he dX11_say_29 rfl (by omega) (by omega) ⟨rfl, zzmod_zh2, (by rw [← ezh2]; exact Fr.push ((by rw [← ezh1]; exact Fr.push (Fr.rf _ _) (by first | exact Or.inl rfl | exact Or.inr rfl))) (by first | exact Or.inl rfl | exact Or.inr rfl))⟩
theorem ev_X11_say' {k : WC} {d : Nat} {h : AH} {s : Int → Int} {A : MAs} {g : Int → Int} {r c : Int} (hd : 1 ≤ d) (hS : MdS h s (fuA A 23 g)) (hr0 : 0 ≤ r) (hr6 : r ≤ 6) (h28 : s 28 = r) (h290 : 0 ≤ s 29) (h291 : s 29 < 400) : Ev k d mdX11_say h [vR (70, 0), vI c] 0 0 (pn fun h' => MdS h' (fu s 29 (s 29 + 1)) (fuA A 23 (fu g (400 * r + s 29) c)) ∧ Fr isRm h h') := by
  have e := ev_X11_say (k := k) (c := c) hd hS hr0 hr6 h28 h290 h291
  rw [fuA_at, fuA_fuA] at e
  exact e
set_option maxRecDepth 100000 in
set_option maxHeartbeats 4000000 in
theorem ev_X11_bad_w {k : WC} {d : Nat} {h : AH} {s : Int → Int} {A : MAs} (hd : 1 ≤ d) (hS : MdS h s A) (h4 : inI (s 4)) (h4w : s 4 ≠ -1) : Ev k d mdX11_bad h [vR (70, 0)] 0 0 (pn fun h' => MdS h' s A ∧ Fr (fun z => z = (70, 0)) h h') := by
  refine Ev.mk (by decide +kernel) [_] rfl (Nat.le_of_ble_eq_true rfl) (fun w hc he => ?_)
  refine j_aload_n hc dX11_bad_0 rfl ?_
  refine j_aload_n hc dX11_bad_1 rfl ?_
  refine j_get hc dX11_bad_2 fX11_132 hS.1 rfl ?_
  refine j_iconst hc dX11_bad_5 ?_
  refine j_icmp_ne (tgt := 16) hc dX11_bad_6 (by decide) h4 ⟨by omega, by omega⟩ (fun zc1 => ?_) (fun zc1 => ?_)
  · refine j_aload_n hc dX11_bad_16 rfl ?_
    refine j_get hc dX11_bad_17 fX11_132 hS.1 rfl ?_
    refine j_put  hc dX11_bad_20 pX11_132 hS.1 rfl mset_4 ?_
    generalize ezh1 : up _ _ _ = zh1
    have zzmod_zh1 := MdS.pf ezh1 hS
    exact j_vret hc he dX11_bad_23 rfl (by omega) (by omega) ⟨rfl, by have zz := zzmod_zh1; rw [fu_self] at zz; exact zz, (by rw [← ezh1]; exact Fr.push (Fr.rf _ _) rfl)⟩
  · exact absurd zc1 h4w
set_option maxRecDepth 100000 in
set_option maxHeartbeats 4000000 in
theorem ev_X11_bad_n {k : WC} {d : Nat} {h : AH} {s : Int → Int} {A : MAs} (hd : 1 ≤ d) (hS : MdS h s A) (h4 : s 4 = -1) : Ev k d mdX11_bad h [vR (70, 0)] 0 0 (pn fun h' => MdS h' (fu s 4 (s 3)) A ∧ Fr (fun z => z = (70, 0)) h h') := by
  refine Ev.mk (by decide +kernel) [_] rfl (Nat.le_of_ble_eq_true rfl) (fun w hc he => ?_)
  refine j_aload_n hc dX11_bad_0 rfl ?_
  refine j_aload_n hc dX11_bad_1 rfl ?_
  refine j_get hc dX11_bad_2 fX11_132 hS.1 rfl ?_
  refine j_iconst hc dX11_bad_5 ?_
  refine j_icmp_ne (tgt := 16) hc dX11_bad_6 (by decide) (by rw [h4]; exact ⟨by omega, by omega⟩) ⟨by omega, by omega⟩ (fun zc1 => ?_) (fun zc1 => ?_)
  · exact absurd h4 zc1
  · refine j_aload_n hc dX11_bad_9 rfl ?_
    refine j_get hc dX11_bad_10 fX11_125 hS.1 rfl ?_
    refine j_goto (tgt := 20) hc dX11_bad_13 (by decide) ?_
    refine j_put  hc dX11_bad_20 pX11_132 hS.1 rfl mset_4 ?_
    generalize ezh1 : up _ _ _ = zh1
    have zzmod_zh1 := MdS.pf ezh1 hS
    exact j_vret hc he dX11_bad_23 rfl (by omega) (by omega) ⟨rfl, zzmod_zh1, (by rw [← ezh1]; exact Fr.push (Fr.rf _ _) rfl)⟩
set_option maxRecDepth 100000 in
set_option maxHeartbeats 4000000 in
theorem ev_X11_opens {k : WC} {d : Nat} {h : AH} {s : Int → Int} {A : MAs} (hd : 2 ≤ d) (hS : MdS h s A) (h50 : 0 ≤ s 5) (h5 : s 5 < 6) : Ev k d mdX11_opens h [vR (70, 0)] 0 0 (pn fun h' => MdS h' (fu (fu s 5 (s 5 + 1)) 3 (s 3 + 1)) A ∧ Fr (fun z => z = (70, 0)) h h') := by
  refine Ev.mk (by decide +kernel) [_] rfl (Nat.le_of_ble_eq_true rfl) (fun w hc he => ?_)
  refine j_aload_n hc dX11_opens_0 rfl ?_
  refine j_get hc dX11_opens_1 fX11_180 hS.1 rfl ?_
  refine j_bipush hc dX11_opens_4 (by decide) ?_
  refine j_icmp_ne (tgt := 14) hc dX11_opens_6 (by decide) ⟨by omega, by omega⟩ ⟨by omega, by omega⟩ (fun zc1 => ?_) (fun zc1 => ?_)
  · refine j_aload_n hc dX11_opens_14 rfl ?_
    refine j_dup hc dX11_opens_15 rfl ?_
    refine j_get hc dX11_opens_16 fX11_180 hS.1 rfl ?_
    refine j_iconst hc dX11_opens_19 ?_
    refine j_iadd hc dX11_opens_20 ?_
    refine j_put  hc dX11_opens_21 pX11_180 hS.1 rfl mset_5 ?_
    generalize ezh1 : up _ _ _ = zh1
    have zzmod_zh1 := MdS.pf ezh1 hS
    refine j_aload_n hc dX11_opens_24 rfl ?_
    refine j_dup hc dX11_opens_25 rfl ?_
    refine j_get hc dX11_opens_26 fX11_125 zzmod_zh1.1 rfl ?_
    rw [show fu s 5 (s 5 + 1) 3 = s 3 from rfl]
    refine j_iconst hc dX11_opens_29 ?_
    refine j_iadd hc dX11_opens_30 ?_
    refine j_put  hc dX11_opens_31 pX11_125 zzmod_zh1.1 rfl mset_3 ?_
    generalize ezh2 : up _ _ _ = zh2
    have zzmod_zh2 := MdS.pf ezh2 zzmod_zh1
    exact j_vret hc he dX11_opens_34 rfl (by omega) (by omega) ⟨rfl, zzmod_zh2, (by rw [← ezh2]; exact Fr.push ((by rw [← ezh1]; exact Fr.push (Fr.rf _ _) rfl)) rfl)⟩
  · exact absurd zc1 (by omega)
set_option maxRecDepth 100000 in
set_option maxHeartbeats 4000000 in
theorem ev_X11_opens_n {k : WC} {d : Nat} {h : AH} {s : Int → Int} {A : MAs} (hd : 2 ≤ d) (hS : MdS h s A) (h5 : s 5 = 6) (h4 : s 4 = -1) : Ev k d mdX11_opens h [vR (70, 0)] 0 0 (pn fun h' => MdS h' (fu s 4 (s 3)) A ∧ Fr (fun z => z = (70, 0)) h h') := by
  refine Ev.mk (by decide +kernel) [_] rfl (Nat.le_of_ble_eq_true rfl) (fun w hc he => ?_)
  refine j_aload_n hc dX11_opens_0 rfl ?_
  refine j_get hc dX11_opens_1 fX11_180 hS.1 rfl ?_
  refine j_bipush hc dX11_opens_4 (by decide) ?_
  refine j_icmp_ne (tgt := 14) hc dX11_opens_6 (by decide) (by rw [h5]; exact ⟨by omega, by omega⟩) ⟨by omega, by omega⟩ (fun zc1 => ?_) (fun zc1 => ?_)
  · exact absurd h5 zc1
  · refine j_aload_n hc dX11_opens_9 rfl ?_
    refine j_callV (d' := d - 1) hc dX11_opens_10 vX11_142 hS.1 (ev_X11_bad_n (by omega) hS (h4)) rfl (by omega) (by omega) (by omega) rfl rfl (Nat.le_of_ble_eq_true rfl) (retN fun zq10 zp10 => ?_)
    obtain ⟨zS1, zF1⟩ := zp10
    skip
    exact j_vret hc he dX11_opens_13 rfl (by omega) (by omega) ⟨rfl, zS1, Fr.tr (Fr.rf _ _) (zF1.mono fun z zz => zz)⟩
def SgP (s : Int → Int) (A : MAs) (b : Int → Int) (n c : Int) (h : AH) : Option AV → AH → Prop := pn fun h' => ∃ s' : Int → Int, MdS h' s' A ∧ (∀ (s0 a0 g : Int → Int) (r j : Int) (t : List Int), Gs s0 a0 r j t s g → ((neS b n c (s 3)).1 ≠ -1 → Bs s0 a0 r (neS b n c (s 3)).1 s' g) ∧ ((neS b n c (s 3)).1 = -1 → Gs s0 a0 r (neS b n c (s 3)).2.1 t s' g)) ∧ s' 5 = s 5 - 1 ∧ s' 29 = s 29 ∧ Fr (fun z => z = (70, 0)) h h'
set_option maxRecDepth 100000 in
set_option maxHeartbeats 4000000 in
theorem ev_X11_sign {k : WC} {d : Nat} {h : AH} {s : Int → Int} {A : MAs} {b : Int → Int} {n : Int} {c : Int} (hd : 3 ≤ d) (hS : MdS h s A) (hT : RdM s A b n) (h30 : 0 ≤ s 3) (h31 : s 3 ≤ n) (h4 : s 4 = -1) (hc0 : 1 ≤ c) (hc1 : c ≤ 255) : Ev k d mdX11_sign h [vR (70, 0), vI c] 0 0 (SgP s A b n c h) := by
  have hn := hT.2.1
  obtain ⟨p1, p2, p3⟩ := skS_b b n (s 3)
  have p2 := p2 h31
  have zs1 := hrM_S hT (show 0 ≤ skS b n (s 3) by omega)
  have zs2 := hrM_b hT (show 0 ≤ skS b n (s 3) by omega)
  refine Ev.mk (by decide +kernel) [_, _] rfl (Nat.le_of_ble_eq_true rfl) (fun w hc he => ?_)
  refine j_aload_n hc dX11_sign_0 rfl ?_
  refine j_get hc dX11_sign_1 fX11_132 hS.1 rfl ?_
  refine j_iconst hc dX11_sign_4 ?_
  refine j_icmp_ne (tgt := 20) hc dX11_sign_5 (by decide) (by rw [h4]; exact ⟨by omega, by omega⟩) ⟨by omega, by omega⟩ (fun zc1 => ?_) (fun zc1 => ?_)
  · exact absurd h4 zc1
  · refine j_aload_n hc dX11_sign_8 rfl ?_
    refine j_callV (d' := d - 1) hc dX11_sign_9 vX11_135 hS.1 (ev_X11_look (by omega) hS (hT) h30 (by omega)) rfl (by omega) (by omega) (by omega) rfl rfl (Nat.le_of_ble_eq_true rfl) (retE fun zv9 zq9 zp9 => ?_)
    obtain ⟨zv7, zS7, zF7⟩ := zp9
    subst zv7
    skip
    refine j_iload_n hc dX11_sign_12 rfl ?_
    refine j_icmp_eq (tgt := 20) hc dX11_sign_13 (by decide) ⟨by omega, by omega⟩ ⟨by omega, by omega⟩ (fun zc2 => ?_) (fun zc2 => ?_)
    · skip
      refine j_aload_n hc dX11_sign_20 rfl ?_
      refine j_dup hc dX11_sign_21 rfl ?_
      refine j_get hc dX11_sign_22 fX11_125 zS7.1 rfl ?_
      rw [fu_same]
      refine j_iconst hc dX11_sign_25 ?_
      refine j_iadd hc dX11_sign_26 ?_
      refine j_put  hc dX11_sign_27 pX11_125 zS7.1 rfl mset_3 ?_
      generalize ezh1 : up _ _ _ = zh1
      have zzmod_zh1 := MdS.pf ezh1 zS7
      refine j_aload_n hc dX11_sign_30 rfl ?_
      refine j_dup hc dX11_sign_31 rfl ?_
      refine j_get hc dX11_sign_32 fX11_180 zzmod_zh1.1 rfl ?_
      rw [show fu (fu s 3 _) 3 _ 5 = s 5 from rfl]
      refine j_iconst hc dX11_sign_35 ?_
      refine j_isub hc dX11_sign_36 ?_
      refine j_put  hc dX11_sign_37 pX11_180 zzmod_zh1.1 rfl mset_5 ?_
      generalize ezh2 : up _ _ _ = zh2
      have zzmod_zh2 := MdS.pf ezh2 zzmod_zh1
      exact j_vret hc he dX11_sign_40 rfl (by omega) (by omega) ⟨rfl, _, zzmod_zh2, fun s0 a0 g r j t hG => by unfold neS; rw [if_pos (by omega)]; exact ⟨fun z => absurd rfl z, fun _ => hG.at_.at_.dp⟩, rfl, rfl, (by rw [← ezh2]; exact Fr.push ((by rw [← ezh1]; exact Fr.push (Fr.tr (Fr.rf _ _) (zF7.mono fun z zz => zz)) rfl)) rfl)⟩
    · skip
      refine j_aload_n hc dX11_sign_16 rfl ?_
      refine j_callV (d' := d - 1) hc dX11_sign_17 vX11_142 zS7.1 (ev_X11_bad_n (by omega) zS7 (show fu s 3 _ 4 = -1 from h4)) rfl (by omega) (by omega) (by omega) rfl rfl (Nat.le_of_ble_eq_true rfl) (retN fun zq17 zp17 => ?_)
      obtain ⟨zS6, zF6⟩ := zp17
      rw [fu_same] at zS6
      refine j_aload_n hc dX11_sign_20 rfl ?_
      refine j_dup hc dX11_sign_21 rfl ?_
      refine j_get hc dX11_sign_22 fX11_125 zS6.1 rfl ?_
      rw [show fu (fu s 3 (skS b n (s 3))) 4 _ 3 = skS b n (s 3) from rfl]
      refine j_iconst hc dX11_sign_25 ?_
      refine j_iadd hc dX11_sign_26 ?_
      refine j_put  hc dX11_sign_27 pX11_125 zS6.1 rfl mset_3 ?_
      generalize ezh3 : up _ _ _ = zh3
      have zzmod_zh3 := MdS.pf ezh3 zS6
      refine j_aload_n hc dX11_sign_30 rfl ?_
      refine j_dup hc dX11_sign_31 rfl ?_
      refine j_get hc dX11_sign_32 fX11_180 zzmod_zh3.1 rfl ?_
      rw [show fu (fu (fu s 3 _) 4 _) 3 _ 5 = s 5 from rfl]
      refine j_iconst hc dX11_sign_35 ?_
      refine j_isub hc dX11_sign_36 ?_
      refine j_put  hc dX11_sign_37 pX11_180 zzmod_zh3.1 rfl mset_5 ?_
      generalize ezh4 : up _ _ _ = zh4
      have zzmod_zh4 := MdS.pf ezh4 zzmod_zh3
      exact j_vret hc he dX11_sign_40 rfl (by omega) (by omega) ⟨rfl, _, zzmod_zh4, fun s0 a0 g r j t hG => by unfold neS; rw [if_neg (by omega)]; exact ⟨fun z => ((hG.at_ (j' := skS b n (s 3))).wrong z).at_.dp, fun z => absurd z (by show ¬ (skS b n (s 3) = -1); omega)⟩, rfl, rfl, (by rw [← ezh4]; exact Fr.push ((by rw [← ezh3]; exact Fr.push (Fr.tr (Fr.tr (Fr.rf _ _) (zF7.mono fun z zz => zz)) (zF6.mono fun z zz => zz)) rfl)) rfl)⟩
set_option maxRecDepth 100000 in
set_option maxHeartbeats 4000000 in
theorem ev_X11_sign_w {k : WC} {d : Nat} {h : AH} {s : Int → Int} {A : MAs} {c : Int} (hd : 1 ≤ d) (hS : MdS h s A) (h4 : inI (s 4)) (h4w : s 4 ≠ -1) : Ev k d mdX11_sign h [vR (70, 0), vI c] 0 0 (pn fun h' => MdS h' (fu (fu s 3 (s 3 + 1)) 5 (s 5 - 1)) A ∧ Fr (fun z => z = (70, 0)) h h') := by
  refine Ev.mk (by decide +kernel) [_, _] rfl (Nat.le_of_ble_eq_true rfl) (fun w hc he => ?_)
  refine j_aload_n hc dX11_sign_0 rfl ?_
  refine j_get hc dX11_sign_1 fX11_132 hS.1 rfl ?_
  refine j_iconst hc dX11_sign_4 ?_
  refine j_icmp_ne (tgt := 20) hc dX11_sign_5 (by decide) h4 ⟨by omega, by omega⟩ (fun zc1 => ?_) (fun zc1 => ?_)
  · refine j_aload_n hc dX11_sign_20 rfl ?_
    refine j_dup hc dX11_sign_21 rfl ?_
    refine j_get hc dX11_sign_22 fX11_125 hS.1 rfl ?_
    refine j_iconst hc dX11_sign_25 ?_
    refine j_iadd hc dX11_sign_26 ?_
    refine j_put  hc dX11_sign_27 pX11_125 hS.1 rfl mset_3 ?_
    generalize ezh1 : up _ _ _ = zh1
    have zzmod_zh1 := MdS.pf ezh1 hS
    refine j_aload_n hc dX11_sign_30 rfl ?_
    refine j_dup hc dX11_sign_31 rfl ?_
    refine j_get hc dX11_sign_32 fX11_180 zzmod_zh1.1 rfl ?_
    rw [show fu s 3 _ 5 = s 5 from rfl]
    refine j_iconst hc dX11_sign_35 ?_
    refine j_isub hc dX11_sign_36 ?_
    refine j_put  hc dX11_sign_37 pX11_180 zzmod_zh1.1 rfl mset_5 ?_
    generalize ezh2 : up _ _ _ = zh2
    have zzmod_zh2 := MdS.pf ezh2 zzmod_zh1
    exact j_vret hc he dX11_sign_40 rfl (by omega) (by omega) ⟨rfl, zzmod_zh2, (by rw [← ezh2]; exact Fr.push ((by rw [← ezh1]; exact Fr.push (Fr.rf _ _) rfl)) rfl)⟩
  · exact absurd zc1 h4w
set_option maxRecDepth 100000 in
set_option maxHeartbeats 4000000 in
theorem ev_X11_isLetter {k : WC} {d : Nat} {h : AH} {c : Int} (hd : 1 ≤ d) (hc0 : inI c) : Ev k d mdX11_isLetter h [vI c] 0 0 (pr (vI (if lcS c = 0 then 0 else 1)) h) := by
  refine Ev.mk (by decide +kernel) [_] rfl (Nat.le_of_ble_eq_true rfl) (fun w hc he => ?_)
  refine j_iload_n hc dX11_isLetter_0 rfl ?_
  refine j_bipush hc dX11_isLetter_1 (by decide) ?_
  refine j_icmp_eq (tgt := 30) hc dX11_isLetter_3 (by decide) hc0 ⟨by omega, by omega⟩ (fun zc1 => ?_) (fun zc1 => ?_)
  · refine j_iconst hc dX11_isLetter_30 ?_
    refine j_goto (tgt := 35) hc dX11_isLetter_31 (by decide) ?_
    exact j_zret hc he dX11_isLetter_35 rfl (by omega) (by omega) (by first | exact Or.inl rfl | exact Or.inr rfl) ⟨vI_eq (by unfold lcS; (repeat (first | rw [if_pos (by omega)] | rw [if_neg (by omega)])); try rfl), rfl⟩
  · refine j_iload_n hc dX11_isLetter_6 rfl ?_
    refine j_bipush hc dX11_isLetter_7 (by decide) ?_
    refine j_icmp_eq (tgt := 30) hc dX11_isLetter_9 (by decide) hc0 ⟨by omega, by omega⟩ (fun zc2 => ?_) (fun zc2 => ?_)
    · refine j_iconst hc dX11_isLetter_30 ?_
      refine j_goto (tgt := 35) hc dX11_isLetter_31 (by decide) ?_
      exact j_zret hc he dX11_isLetter_35 rfl (by omega) (by omega) (by first | exact Or.inl rfl | exact Or.inr rfl) ⟨vI_eq (by unfold lcS; (repeat (first | rw [if_pos (by omega)] | rw [if_neg (by omega)])); try rfl), rfl⟩
    · refine j_iload_n hc dX11_isLetter_12 rfl ?_
      refine j_bipush hc dX11_isLetter_13 (by decide) ?_
      refine j_icmp_eq (tgt := 30) hc dX11_isLetter_15 (by decide) hc0 ⟨by omega, by omega⟩ (fun zc3 => ?_) (fun zc3 => ?_)
      · refine j_iconst hc dX11_isLetter_30 ?_
        refine j_goto (tgt := 35) hc dX11_isLetter_31 (by decide) ?_
        exact j_zret hc he dX11_isLetter_35 rfl (by omega) (by omega) (by first | exact Or.inl rfl | exact Or.inr rfl) ⟨vI_eq (by unfold lcS; (repeat (first | rw [if_pos (by omega)] | rw [if_neg (by omega)])); try rfl), rfl⟩
      · refine j_iload_n hc dX11_isLetter_18 rfl ?_
        refine j_bipush hc dX11_isLetter_19 (by decide) ?_
        refine j_icmp_eq (tgt := 30) hc dX11_isLetter_21 (by decide) hc0 ⟨by omega, by omega⟩ (fun zc4 => ?_) (fun zc4 => ?_)
        · refine j_iconst hc dX11_isLetter_30 ?_
          refine j_goto (tgt := 35) hc dX11_isLetter_31 (by decide) ?_
          exact j_zret hc he dX11_isLetter_35 rfl (by omega) (by omega) (by first | exact Or.inl rfl | exact Or.inr rfl) ⟨vI_eq (by unfold lcS; (repeat (first | rw [if_pos (by omega)] | rw [if_neg (by omega)])); try rfl), rfl⟩
        · refine j_iload_n hc dX11_isLetter_24 rfl ?_
          refine j_bipush hc dX11_isLetter_25 (by decide) ?_
          refine j_icmp_ne (tgt := 34) hc dX11_isLetter_27 (by decide) hc0 ⟨by omega, by omega⟩ (fun zc5 => ?_) (fun zc5 => ?_)
          · refine j_iconst hc dX11_isLetter_34 ?_
            exact j_zret hc he dX11_isLetter_35 rfl (by omega) (by omega) (by first | exact Or.inl rfl | exact Or.inr rfl) ⟨vI_eq (by unfold lcS; (repeat (first | rw [if_pos (by omega)] | rw [if_neg (by omega)])); try rfl), rfl⟩
          · refine j_iconst hc dX11_isLetter_30 ?_
            refine j_goto (tgt := 35) hc dX11_isLetter_31 (by decide) ?_
            exact j_zret hc he dX11_isLetter_35 rfl (by omega) (by omega) (by first | exact Or.inl rfl | exact Or.inr rfl) ⟨vI_eq (by unfold lcS; (repeat (first | rw [if_pos (by omega)] | rw [if_neg (by omega)])); try rfl), rfl⟩
