/-! ===== rules: reckoned by class and reference ===== -/
def vlS (lt : Int → Int) (t : List Int) : Int := (pll (clF lt t [])).1
theorem Gud.v {t : List Int} {m : Nat} {b : Bool} (h : Gud t m b) (hm : m ≤ 64) {lt : Int → Int} (hl : ltOK lt) : inI (vlS lt t) ∧ (b = true → vlS lt t = 0 ∨ vlS lt t = 1) ∧ ∀ st : List Int, st.length + m ≤ 64 → clF lt t st = vlS lt t :: st ∧ moF lt t st = some (vlS lt t :: st) := by
  obtain ⟨h0, h1, v, h2⟩ := h
  obtain ⟨a1, a2, a3⟩ := h2 lt hl
  have e : vlS lt t = v lt := by unfold vlS; rw [(a3 [] (by simpa using hm)).1]; rfl
  rw [e]
  exact ⟨a1, a2, a3⟩
def wvS (lt : Int → Int) : Cls → Int
  | [] => 0
  | q :: c => if q.1 = [] ∨ vlS lt q.1 = 1 then vlS lt q.2 else wvS lt c
def rnL (lt : Int → Int) : List Int → List Int → Int → Int
  | [], _, _ => 0
  | x :: t, st, p => if p = 0 then (if x = -17 then (pll st).1 else if x = -16 then rnL lt t (pll st).2 (if (pll st).1 = 0 then 1 else 0) else rnL lt t (tkR lt x st) 0) else rnL lt t st (if x = -17 then 0 else 1)
theorem cfL_at {pre : List Int} {x : Int} {t : List Int} : cfL (pre ++ x :: t) (pre.length : Int) = x := by
  unfold cfL
  rw [show ((pre.length : Nat) : Int).toNat = pre.length from rfl, List.getD_eq_getElem?_getD, List.getElem?_append_right (Nat.le_refl _)]
  simp
theorem rnC_L {lt : Int → Int} : ∀ (t pre st : List Int) (p : Int), rnC (cfL (pre ++ t)) lt t.length pre.length st p = rnL lt t st p
  | [], pre, st, p => rfl
  | x :: t, pre, st, p => by
    have ih := fun st p => rnC_L (lt := lt) t (pre ++ [x]) st p
    rw [show pre ++ [x] ++ t = pre ++ x :: t by simp, show (((pre ++ [x]).length : Nat) : Int) = (pre.length : Int) + 1 by simp] at ih
    simp only [List.length_cons, rnC, rnL, cfL_at, ih]
theorem rnL_toks {lt : Int → Int} {rest : List Int} : ∀ (t st : List Int), (∀ x ∈ t, tkIn x) → rnL lt (t ++ rest) st 0 = rnL lt rest (clF lt t st) 0
  | [], st, _ => rfl
  | x :: t, st, h => by
    have hx := h x List.mem_cons_self
    simp only [List.cons_append, rnL]
    rw [if_pos trivial, if_neg (by omega), if_neg (by omega), rnL_toks t _ (fun y hy => h y (List.mem_cons_of_mem _ hy))]
    rfl
theorem rnL_skip {lt : Int → Int} {rest : List Int} : ∀ (t st : List Int), (∀ x ∈ t, tkIn x) → rnL lt (t ++ -17 :: rest) st 1 = rnL lt rest st 0
  | [], st, _ => by
    simp only [List.nil_append, rnL]
    rw [if_neg (by omega), if_pos trivial]
  | x :: t, st, h => by
    have hx := h x List.mem_cons_self
    simp only [List.cons_append, rnL]
    rw [if_neg (by omega), if_neg (by omega), rnL_skip t st (fun y hy => h y (List.mem_cons_of_mem _ hy))]
theorem rn_cls {lt : Int → Int} (hl : ltOK lt) : ∀ c : Cls, ClsG c → rnL lt (flC c) [] 0 = wvS lt c
  | [], _ => rfl
  | q :: c, h => by
    obtain ⟨h1, h2⟩ := h q List.mem_cons_self
    have ih := rn_cls hl c (fun y hy => h y (List.mem_cons_of_mem _ hy))
    obtain ⟨b1, b2, b3⟩ := h2.v (by omega) hl
    show rnL lt (ccL q ++ flC c) [] 0 = _
    simp only [wvS]
    unfold ccL
    by_cases e : q.1 = []
    · rw [if_pos e, if_pos (Or.inl e), List.append_assoc, rnL_toks q.2 [] h2.2.1, (b3 [] (by simp)).1]
      simp only [List.cons_append, rnL]
      rw [if_pos trivial, if_pos trivial]
      rfl
    · rw [if_neg e]
      rcases h1 with h1 | h1
      · exact absurd h1 e
      obtain ⟨a1, a2, a3⟩ := h1.v (by omega) hl
      have a2 := a2 rfl
      rw [List.append_assoc, rnL_toks q.1 [] h1.2.1, (a3 [] (by simp)).1]
      simp only [List.cons_append, rnL]
      rw [if_pos trivial, if_neg (by omega), if_pos trivial]
      show rnL lt (q.2 ++ [-17] ++ flC c) [] (if vlS lt q.1 = 0 then 1 else 0) = _
      rw [List.append_assoc]
      rcases a2 with z | z
      · rw [if_pos z, if_neg (by intro y; rcases y with y | y; (· exact e y); omega)]
        show rnL lt (q.2 ++ -17 :: flC c) [] 1 = _
        rw [rnL_skip q.2 [] h2.2.1, ih]
      · rw [if_neg (by omega), if_pos (Or.inr z), rnL_toks q.2 [] h2.2.1, (b3 [] (by simp)).1]
        simp only [List.cons_append, rnL]
        rw [if_pos trivial, if_pos trivial]
        rfl
theorem woS_wv {c : Cls} (hc : ClsG c) {a s n p r : Int} (ha : inI a) (hs : inI s) (hn : inI n) (hp : inI p) (hr : inI r) : woS (cfL (flC c)) (flC c).length a s n p r = wvS (l5 a s n p r) c := by
  unfold woS
  have h := rnC_L (lt := l5 a s n p r) (flC c) [] [] 0
  rw [List.nil_append] at h
  rw [← rn_cls (fun j _ _ => l5_b ha hs hn hp hr j) c hc]
  exact h
/-- how the reference writes a token -/
def lch (x : Int) : Int := if x = -1 then 97 else if x = -2 then 115 else if x = -3 then 110 else if x = -4 then 112 else 114
def sch (x : Int) : Int := if x = -6 then 43 else if x = -7 then 45 else if x = -8 then 42 else if x = -9 then 47 else if x = -10 then 61 else if x = -11 then 60 else if x = -12 then 62 else if x = -13 then 38 else if x = -14 then 124 else 33
def trT (x : Int) : List Int := if x ≥ 0 then [0, x] else if x ≥ -5 then [1, lch x] else [sch x]
def trL (t : List Int) : List Int := t.flatMap trT
theorem trL_cons (x : Int) (t : List Int) : trL (x :: t) = trT x ++ trL t := rfl
theorem trL_app (t u : List Int) : trL (t ++ u) = trL t ++ trL u := by unfold trL; rw [List.flatMap_append]
theorem trT_len (x : Int) : 1 ≤ (trT x).length ∧ (trT x).length ≤ 2 := by
  unfold trT
  split
  · simp
  · split <;> simp
theorem trL_nil {t : List Int} (h : (trL t).length = 0) : t = [] := by
  cases t with
  | nil => rfl
  | cons x t =>
    rw [trL_cons, List.length_append] at h
    have := trT_len x
    omega
def boS (x u v : Int) : Int := if x ≥ -9 then rkS x u v else if x = -13 then (if u + v = 2 then 1 else 0) else if x = -14 then (if u + v > 0 then 1 else 0) else trS x u v
theorem sch_b {x : Int} (h0 : -14 ≤ x) (h1 : x ≤ -6) : 38 ≤ sch x ∧ sch x ≤ 124 := by
  unfold sch
  repeat' split
  all_goals omega
set_option maxRecDepth 100000 in
set_option maxHeartbeats 4000000 in
theorem ev_X11_within {k : WC} {d : Nat} {h : AH} {x : Int} (hd : 2 ≤ d) (hx : inL x) : Ev k d mdX11_within h [vL x] 0 0 (pr (vL (clS x)) h) := by
  refine Ev.mk (by decide +kernel) [_, _] rfl (Nat.le_of_ble_eq_true rfl) (fun w hc he => ?_)
  refine j_ldc2 (x := -1000000) hc dX11_within_0 kX11_230 (by decide) ?_
  refine j_ldc2 (x := 1000000) hc dX11_within_3 kX11_232 (by decide) ?_
  refine j_lload_n hc dX11_within_6 rfl ?_
  refine j_mminL hc dX11_within_7 mX11_234 mo_minL (by exact ⟨by omega, by omega⟩) hx (by omega) (by omega) rfl (by omega) (Nat.le_of_ble_eq_true rfl) ?_
  refine j_mmaxL hc dX11_within_10 mX11_237 mo_maxL ⟨by omega, by omega⟩ ⟨by omega, by omega⟩ (by omega) (by omega) rfl (by omega) (Nat.le_of_ble_eq_true rfl) ?_
  exact j_lret hc he dX11_within_13 rfl (by omega) (by omega) ⟨vL_eq rfl, rfl⟩
set_option maxRecDepth 100000 in
set_option maxHeartbeats 4000000 in
theorem ev_X11_both {k : WC} {d : Nat} {h : AH} {x u v : Int} (hd : 4 ≤ d) (hx0 : -14 ≤ x) (hx1 : x ≤ -6) (hu : inI u) (hv : inI v) : Ev k d mdX11_both h [vI (sch x), vL u, vL v] 0 0 (pr (vL (boS x u v)) h) := by
  have zmu := imul_b hu hv
  have ztd := tdiv_b (y := v) hu
  rcases (by omega : x = -6 ∨ x = -7 ∨ x = -8 ∨ x = -9 ∨ x = -10 ∨ x = -11 ∨ x = -12 ∨ x = -13 ∨ x = -14) with rfl | rfl | rfl | rfl | rfl | rfl | rfl | rfl | rfl
  · show Ev k d mdX11_both h [vI 43, vL u, vL v] 0 0 _
    refine Ev.mk (by decide +kernel) [_, _, _, _, _] rfl (Nat.le_of_ble_eq_true rfl) (fun w hc he => ?_)
    refine j_iload_n hc dX11_both_0 rfl ?_
    refine j_tableIn (tgt := 116) (off := 115) hc dX11_both_1 ⟨by omega, by omega⟩ (by omega) (by omega) rfl (by decide) ?_
    refine j_lload_n hc dX11_both_116 rfl ?_
    refine j_lload_n hc dX11_both_117 rfl ?_
    refine j_ladd hc dX11_both_118 ?_
    refine j_callS (d' := d - 1) hc dX11_both_119 sX11_240 (ev_X11_within (by omega) ⟨by omega, by omega⟩) rfl (by omega) (by omega) (by omega) rfl rfl (Nat.le_of_ble_eq_true rfl) (ret1 ?_)
    exact j_lret hc he dX11_both_122 rfl (by omega) (by omega) ⟨vL_eq (by rw [show boS (-6) u v = rkS (-6) u v from rfl]; unfold rkS; rfl), rfl⟩
  · show Ev k d mdX11_both h [vI 45, vL u, vL v] 0 0 _
    refine Ev.mk (by decide +kernel) [_, _, _, _, _] rfl (Nat.le_of_ble_eq_true rfl) (fun w hc he => ?_)
    refine j_iload_n hc dX11_both_0 rfl ?_
    refine j_tableIn (tgt := 123) (off := 122) hc dX11_both_1 ⟨by omega, by omega⟩ (by omega) (by omega) rfl (by decide) ?_
    refine j_lload_n hc dX11_both_123 rfl ?_
    refine j_lload_n hc dX11_both_124 rfl ?_
    refine j_lsub hc dX11_both_125 ?_
    refine j_callS (d' := d - 1) hc dX11_both_126 sX11_240 (ev_X11_within (by omega) ⟨by omega, by omega⟩) rfl (by omega) (by omega) (by omega) rfl rfl (Nat.le_of_ble_eq_true rfl) (ret1 ?_)
    exact j_lret hc he dX11_both_129 rfl (by omega) (by omega) ⟨vL_eq (by rw [show boS (-7) u v = rkS (-7) u v from rfl]; unfold rkS; rfl), rfl⟩
  · show Ev k d mdX11_both h [vI 42, vL u, vL v] 0 0 _
    refine Ev.mk (by decide +kernel) [_, _, _, _, _] rfl (Nat.le_of_ble_eq_true rfl) (fun w hc he => ?_)
    refine j_iload_n hc dX11_both_0 rfl ?_
    refine j_tableIn (tgt := 130) (off := 129) hc dX11_both_1 ⟨by omega, by omega⟩ (by omega) (by omega) rfl (by decide) ?_
    refine j_lload_n hc dX11_both_130 rfl ?_
    refine j_lload_n hc dX11_both_131 rfl ?_
    refine j_lmul hc dX11_both_132 ?_
    refine j_callS (d' := d - 1) hc dX11_both_133 sX11_240 (ev_X11_within (by omega) ⟨by omega, by omega⟩) rfl (by omega) (by omega) (by omega) rfl rfl (Nat.le_of_ble_eq_true rfl) (ret1 ?_)
    exact j_lret hc he dX11_both_136 rfl (by omega) (by omega) ⟨vL_eq (by rw [show boS (-8) u v = rkS (-8) u v from rfl]; unfold rkS; rfl), rfl⟩
  · show Ev k d mdX11_both h [vI 47, vL u, vL v] 0 0 _
    refine Ev.mk (by decide +kernel) [_, _, _, _, _] rfl (Nat.le_of_ble_eq_true rfl) (fun w hc he => ?_)
    refine j_iload_n hc dX11_both_0 rfl ?_
    refine j_tableIn (tgt := 137) (off := 136) hc dX11_both_1 ⟨by omega, by omega⟩ (by omega) (by omega) rfl (by decide) ?_
    refine j_lload_n hc dX11_both_137 rfl ?_
    refine j_lconst (x := 0) hc dX11_both_138 (by decide) ?_
    refine j_lcmp hc dX11_both_139 ⟨by omega, by omega⟩ ⟨by omega, by omega⟩ ?_
    refine j_if_ne (b := 0) (tgt := 147) hc dX11_both_140 (by decide) (by unfold lc; split <;> (try split) <;> exact ⟨by omega, by omega⟩) (fun zc1 => ?_) (fun zc1 => ?_)
    · have zq : v ≠ 0 := by unfold lc at zc1; split at zc1 <;> (try split at zc1) <;> omega
      refine j_lload_n hc dX11_both_147 rfl ?_
      refine j_lload_n hc dX11_both_148 rfl ?_
      refine j_ldiv hc dX11_both_149 ⟨by omega, by omega⟩ ⟨by omega, by omega⟩ zq ?_
      refine j_callS (d' := d - 1) hc dX11_both_150 sX11_240 (ev_X11_within (by omega) ⟨by omega, by omega⟩) rfl (by omega) (by omega) (by omega) rfl rfl (Nat.le_of_ble_eq_true rfl) (ret1 ?_)
      exact j_lret hc he dX11_both_153 rfl (by omega) (by omega) ⟨vL_eq (by rw [show boS (-9) u v = rkS (-9) u v from rfl]; unfold rkS; rw [if_neg (by omega), if_neg (by omega), if_neg (by omega)]; first | rw [if_neg zq] | (rw [if_pos zq]; rfl)), rfl⟩
    · have zq : v = 0 := by unfold lc at zc1; split at zc1 <;> (try split at zc1) <;> omega
      refine j_lconst (x := 0) hc dX11_both_143 (by decide) ?_
      refine j_goto (tgt := 153) hc dX11_both_144 (by decide) ?_
      exact j_lret hc he dX11_both_153 rfl (by omega) (by omega) ⟨vL_eq (by rw [show boS (-9) u v = rkS (-9) u v from rfl]; unfold rkS; rw [if_neg (by omega), if_neg (by omega), if_neg (by omega)]; first | rw [if_neg zq] | (rw [if_pos zq]; rfl)), rfl⟩
  · show Ev k d mdX11_both h [vI 61, vL u, vL v] 0 0 _
    refine Ev.mk (by decide +kernel) [_, _, _, _, _] rfl (Nat.le_of_ble_eq_true rfl) (fun w hc he => ?_)
    refine j_iload_n hc dX11_both_0 rfl ?_
    refine j_tableIn (tgt := 154) (off := 153) hc dX11_both_1 ⟨by omega, by omega⟩ (by omega) (by omega) rfl (by decide) ?_
    refine j_lload_n hc dX11_both_154 rfl ?_
    refine j_lload_n hc dX11_both_155 rfl ?_
    refine j_lcmp hc dX11_both_156 ⟨by omega, by omega⟩ ⟨by omega, by omega⟩ ?_
    refine j_if_ne (b := 0) (tgt := 164) hc dX11_both_157 (by decide) (by unfold lc; split <;> (try split) <;> exact ⟨by omega, by omega⟩) (fun zc1 => ?_) (fun zc1 => ?_)
    · have zq : ¬ u = v := by unfold lc at zc1; split at zc1 <;> (try split at zc1) <;> omega
      refine j_lconst (x := 0) hc dX11_both_164 (by decide) ?_
      exact j_lret hc he dX11_both_165 rfl (by omega) (by omega) ⟨vL_eq (by rw [show boS (-10) u v = trS (-10) u v from rfl]; unfold trS; rw [if_pos rfl]; first | rw [if_pos zq] | rw [if_neg zq]), rfl⟩
    · have zq : u = v := by unfold lc at zc1; split at zc1 <;> (try split at zc1) <;> omega
      refine j_lconst (x := 1) hc dX11_both_160 (by decide) ?_
      refine j_goto (tgt := 165) hc dX11_both_161 (by decide) ?_
      exact j_lret hc he dX11_both_165 rfl (by omega) (by omega) ⟨vL_eq (by rw [show boS (-10) u v = trS (-10) u v from rfl]; unfold trS; rw [if_pos rfl]; first | rw [if_pos zq] | rw [if_neg zq]), rfl⟩
  · show Ev k d mdX11_both h [vI 60, vL u, vL v] 0 0 _
    refine Ev.mk (by decide +kernel) [_, _, _, _, _] rfl (Nat.le_of_ble_eq_true rfl) (fun w hc he => ?_)
    refine j_iload_n hc dX11_both_0 rfl ?_
    refine j_tableIn (tgt := 166) (off := 165) hc dX11_both_1 ⟨by omega, by omega⟩ (by omega) (by omega) rfl (by decide) ?_
    refine j_lload_n hc dX11_both_166 rfl ?_
    refine j_lload_n hc dX11_both_167 rfl ?_
    refine j_lcmp hc dX11_both_168 ⟨by omega, by omega⟩ ⟨by omega, by omega⟩ ?_
    refine j_if_ge (b := 0) (tgt := 176) hc dX11_both_169 (by decide) (by unfold lc; split <;> (try split) <;> exact ⟨by omega, by omega⟩) (fun zc1 => ?_) (fun zc1 => ?_)
    · have zq : ¬ u < v := by unfold lc at zc1; split at zc1 <;> (try split at zc1) <;> omega
      refine j_lconst (x := 0) hc dX11_both_176 (by decide) ?_
      exact j_lret hc he dX11_both_177 rfl (by omega) (by omega) ⟨vL_eq (by rw [show boS (-11) u v = trS (-11) u v from rfl]; unfold trS; rw [if_neg (by omega), if_pos rfl]; first | rw [if_pos zq] | rw [if_neg zq]), rfl⟩
    · have zq : u < v := by unfold lc at zc1; split at zc1 <;> (try split at zc1) <;> omega
      refine j_lconst (x := 1) hc dX11_both_172 (by decide) ?_
      refine j_goto (tgt := 177) hc dX11_both_173 (by decide) ?_
      exact j_lret hc he dX11_both_177 rfl (by omega) (by omega) ⟨vL_eq (by rw [show boS (-11) u v = trS (-11) u v from rfl]; unfold trS; rw [if_neg (by omega), if_pos rfl]; first | rw [if_pos zq] | rw [if_neg zq]), rfl⟩
  · show Ev k d mdX11_both h [vI 62, vL u, vL v] 0 0 _
    refine Ev.mk (by decide +kernel) [_, _, _, _, _] rfl (Nat.le_of_ble_eq_true rfl) (fun w hc he => ?_)
    refine j_iload_n hc dX11_both_0 rfl ?_
    refine j_tableIn (tgt := 178) (off := 177) hc dX11_both_1 ⟨by omega, by omega⟩ (by omega) (by omega) rfl (by decide) ?_
    refine j_lload_n hc dX11_both_178 rfl ?_
    refine j_lload_n hc dX11_both_179 rfl ?_
    refine j_lcmp hc dX11_both_180 ⟨by omega, by omega⟩ ⟨by omega, by omega⟩ ?_
    refine j_if_le (b := 0) (tgt := 188) hc dX11_both_181 (by decide) (by unfold lc; split <;> (try split) <;> exact ⟨by omega, by omega⟩) (fun zc1 => ?_) (fun zc1 => ?_)
    · have zq : ¬ u > v := by unfold lc at zc1; split at zc1 <;> (try split at zc1) <;> omega
      refine j_lconst (x := 0) hc dX11_both_188 (by decide) ?_
      exact j_lret hc he dX11_both_189 rfl (by omega) (by omega) ⟨vL_eq (by rw [show boS (-12) u v = trS (-12) u v from rfl]; unfold trS; rw [if_neg (by omega), if_neg (by omega), if_pos rfl]; first | rw [if_pos zq] | rw [if_neg zq]), rfl⟩
    · have zq : u > v := by unfold lc at zc1; split at zc1 <;> (try split at zc1) <;> omega
      refine j_lconst (x := 1) hc dX11_both_184 (by decide) ?_
      refine j_goto (tgt := 189) hc dX11_both_185 (by decide) ?_
      exact j_lret hc he dX11_both_189 rfl (by omega) (by omega) ⟨vL_eq (by rw [show boS (-12) u v = trS (-12) u v from rfl]; unfold trS; rw [if_neg (by omega), if_neg (by omega), if_pos rfl]; first | rw [if_pos zq] | rw [if_neg zq]), rfl⟩
  · show Ev k d mdX11_both h [vI 38, vL u, vL v] 0 0 _
    refine Ev.mk (by decide +kernel) [_, _, _, _, _] rfl (Nat.le_of_ble_eq_true rfl) (fun w hc he => ?_)
    refine j_iload_n hc dX11_both_0 rfl ?_
    refine j_tableIn (tgt := 190) (off := 189) hc dX11_both_1 ⟨by omega, by omega⟩ (by omega) (by omega) rfl (by decide) ?_
    refine j_lload_n hc dX11_both_190 rfl ?_
    refine j_lload_n hc dX11_both_191 rfl ?_
    refine j_ladd hc dX11_both_192 ?_
    refine j_ldc2 (x := 2) hc dX11_both_193 kX11_244 (by decide) ?_
    refine j_lcmp hc dX11_both_196 ⟨by omega, by omega⟩ ⟨by omega, by omega⟩ ?_
    refine j_if_ne (b := 0) (tgt := 204) hc dX11_both_197 (by decide) (by unfold lc; split <;> (try split) <;> exact ⟨by omega, by omega⟩) (fun zc1 => ?_) (fun zc1 => ?_)
    · have zq : ¬ u + v = 2 := by unfold lc at zc1; split at zc1 <;> (try split at zc1) <;> omega
      refine j_lconst (x := 0) hc dX11_both_204 (by decide) ?_
      exact j_lret hc he dX11_both_205 rfl (by omega) (by omega) ⟨vL_eq (by rw [show boS (-13) u v = if u + v = 2 then 1 else 0 from rfl]; first | rw [if_pos zq] | rw [if_neg zq]), rfl⟩
    · have zq : u + v = 2 := by unfold lc at zc1; split at zc1 <;> (try split at zc1) <;> omega
      refine j_lconst (x := 1) hc dX11_both_200 (by decide) ?_
      refine j_goto (tgt := 205) hc dX11_both_201 (by decide) ?_
      exact j_lret hc he dX11_both_205 rfl (by omega) (by omega) ⟨vL_eq (by rw [show boS (-13) u v = if u + v = 2 then 1 else 0 from rfl]; first | rw [if_pos zq] | rw [if_neg zq]), rfl⟩
  · show Ev k d mdX11_both h [vI 124, vL u, vL v] 0 0 _
    refine Ev.mk (by decide +kernel) [_, _, _, _, _] rfl (Nat.le_of_ble_eq_true rfl) (fun w hc he => ?_)
    refine j_iload_n hc dX11_both_0 rfl ?_
    refine j_tableOut (tgt := 206) hc dX11_both_1 ⟨by omega, by omega⟩ (by omega) (by decide) ?_
    refine j_lload_n hc dX11_both_206 rfl ?_
    refine j_lload_n hc dX11_both_207 rfl ?_
    refine j_ladd hc dX11_both_208 ?_
    refine j_lconst (x := 0) hc dX11_both_209 (by decide) ?_
    refine j_lcmp hc dX11_both_210 ⟨by omega, by omega⟩ ⟨by omega, by omega⟩ ?_
    refine j_if_le (b := 0) (tgt := 218) hc dX11_both_211 (by decide) (by unfold lc; split <;> (try split) <;> exact ⟨by omega, by omega⟩) (fun zc1 => ?_) (fun zc1 => ?_)
    · have zq : ¬ u + v > 0 := by unfold lc at zc1; split at zc1 <;> (try split at zc1) <;> omega
      refine j_lconst (x := 0) hc dX11_both_218 (by decide) ?_
      exact j_lret hc he dX11_both_219 rfl (by omega) (by omega) ⟨vL_eq (by rw [show boS (-14) u v = if u + v > 0 then 1 else 0 from rfl]; first | rw [if_pos zq] | rw [if_neg zq]), rfl⟩
    · have zq : u + v > 0 := by unfold lc at zc1; split at zc1 <;> (try split at zc1) <;> omega
      refine j_lconst (x := 1) hc dX11_both_214 (by decide) ?_
      refine j_goto (tgt := 219) hc dX11_both_215 (by decide) ?_
      exact j_lret hc he dX11_both_219 rfl (by omega) (by omega) ⟨vL_eq (by rw [show boS (-14) u v = if u + v > 0 then 1 else 0 from rfl]; first | rw [if_pos zq] | rw [if_neg zq]), rfl⟩
