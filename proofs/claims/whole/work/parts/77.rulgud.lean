
/-! ===== rules: what a written sum or truth comes to, in both ===== -/
/-- one token, as the reference goes through it; none where its pile hasn't what it takes -/
def moO (lt : Int → Int) (x : Int) (st : List Int) : Option (List Int) :=
  if x ≥ 0 then (if st.length < 64 then some (x :: st) else none)
  else if x ≥ -5 then (if st.length < 64 then some (lt (-1 - x) :: st) else none)
  else if x = -15 then (match st with
    | [] => none
    | v :: t => if v = 0 ∨ v = 1 then some ((1 - v) :: t) else none)
  else (match st with
    | v :: u :: t => some ((if x ≥ -9 then rkS x u v else if x = -13 then (if u + v = 2 then 1 else 0) else if x = -14 then (if u + v > 0 then 1 else 0) else trS x u v) :: t)
    | _ => none)
def moF (lt : Int → Int) : List Int → List Int → Option (List Int)
  | [], st => some st
  | x :: t, st => (match moO lt x st with
    | none => none
    | some s => moF lt t s)
theorem moF_app {lt : Int → Int} {u : List Int} : ∀ {t st s : List Int}, moF lt t st = some s → moF lt (t ++ u) st = moF lt u s
  | [], st, s, h => by cases h; rfl
  | x :: t, st, s, h => by
    simp only [List.cons_append, moF] at h ⊢
    cases e : moO lt x st with
    | none => rw [e] at h; cases h
    | some s' => rw [e] at h; exact moF_app h
def clF (lt : Int → Int) (t st : List Int) : List Int := t.foldl (fun st x => tkR lt x st) st
theorem clF_app {lt : Int → Int} {t u st : List Int} : clF lt (t ++ u) st = clF lt u (clF lt t st) := List.foldl_append
abbrev ltOK (lt : Int → Int) : Prop := ∀ j, 0 ≤ j → j ≤ 4 → inI (lt j)
/-- a written sum (b false) or truth (b true) that takes no more than m places -/
def Gud (t : List Int) (m : Nat) (b : Bool) : Prop := t ≠ [] ∧ (∀ x ∈ t, tkIn x) ∧ ∃ v : (Int → Int) → Int, ∀ lt, ltOK lt → inI (v lt) ∧ (b = true → v lt = 0 ∨ v lt = 1) ∧ ∀ st : List Int, st.length + m ≤ 64 → clF lt t st = v lt :: st ∧ moF lt t st = some (v lt :: st)
theorem Gud.mono {t : List Int} {m m' : Nat} {b : Bool} (h : Gud t m b) (hm : m ≤ m') : Gud t m' b := by
  obtain ⟨h0, h1, v, h2⟩ := h
  exact ⟨h0, h1, v, fun lt hl => ⟨(h2 lt hl).1, (h2 lt hl).2.1, fun st hs => (h2 lt hl).2.2 st (by omega)⟩⟩
theorem Gud.num {x : Int} (h0 : 0 ≤ x) (h1 : x ≤ 9999) : Gud [x] 1 false := by
  refine ⟨by simp, fun y hy => ?_, fun _ => x, fun lt hl => ⟨⟨by dsimp only; omega, by dsimp only; omega⟩, fun z => (by cases z), fun st hs => ?_⟩⟩
  · rcases List.mem_cons.mp hy with rfl | hy
    · exact ⟨by omega, h1⟩
    · cases hy
  · constructor
    · show tkR lt x st = _
      unfold tkR psh
      rw [if_pos h0, if_pos (by omega)]
    · simp only [moF, moO]
      rw [if_pos h0, if_pos (by omega)]
theorem Gud.let {x : Int} (h0 : -5 ≤ x) (h1 : x < 0) : Gud [x] 1 false := by
  refine ⟨by simp, fun y hy => ?_, fun lt => lt (-1 - x), fun lt hl => ⟨hl _ (by omega) (by omega), fun z => (by cases z), fun st hs => ?_⟩⟩
  · rcases List.mem_cons.mp hy with rfl | hy
    · exact ⟨by omega, by omega⟩
    · cases hy
  · constructor
    · show tkR lt x st = _
      unfold tkR psh
      rw [if_neg (by omega), if_pos h0, if_pos (by omega)]
    · simp only [moF, moO]
      rw [if_neg (by omega), if_pos h0, if_pos (by omega)]
theorem tkR_2 {lt : Int → Int} {x u v : Int} {st : List Int} (h0 : x < -5) (h1 : x ≠ -15) (hs : st.length < 64) : tkR lt x (v :: u :: st) = (if x ≥ -9 then rkS x u v else trS x u v) :: st := by
  unfold tkR
  rw [if_neg (by omega), if_neg (by omega), if_neg h1]
  show psh st _ = _
  unfold psh
  rw [if_pos hs]
  rfl
/-- two of them joined -/
theorem Gud.two {t u : List Int} {x : Int} {m1 m2 m : Nat} {b1 b2 b : Bool} (ht : Gud t m1 b1) (hu : Gud u m2 b2) (hm1 : m1 ≤ m) (hm2 : m2 + 1 ≤ m) (hx0 : -14 ≤ x) (hx1 : x ≤ -6) (hb1 : x ≤ -13 → b1 = true ∧ b2 = true) (hb : b = true → x ≤ -10) : Gud (t ++ u ++ [x]) m b := by
  obtain ⟨t0, t1, v1, t2⟩ := ht
  obtain ⟨u0, u1, v2, u2⟩ := hu
  refine ⟨by simp, fun y hy => ?_, fun lt => if x ≥ -9 then rkS x (v1 lt) (v2 lt) else trS x (v1 lt) (v2 lt), fun lt hl => ?_⟩
  · rcases List.mem_append.mp hy with hy | hy
    · rcases List.mem_append.mp hy with hy | hy
      · exact t1 y hy
      · exact u1 y hy
    · rcases List.mem_cons.mp hy with rfl | hy
      · exact ⟨by omega, by omega⟩
      · cases hy
  · obtain ⟨a1, a2, a3⟩ := t2 lt hl
    obtain ⟨c1, c2, c3⟩ := u2 lt hl
    have h01 := trS_01 x (v1 lt) (v2 lt)
    refine ⟨?_, fun z => ?_, fun st hs => ?_⟩
    · show inI (if x ≥ -9 then rkS x (v1 lt) (v2 lt) else trS x (v1 lt) (v2 lt))
      split
      · exact clS_b _
      · rcases h01 with h | h <;> (rw [h]; exact ⟨by omega, by omega⟩)
    · have := hb z
      show (if x ≥ -9 then rkS x (v1 lt) (v2 lt) else trS x (v1 lt) (v2 lt)) = 0 ∨ (if x ≥ -9 then rkS x (v1 lt) (v2 lt) else trS x (v1 lt) (v2 lt)) = 1
      rw [if_neg (by omega)]
      exact h01
    · obtain ⟨d1, d2⟩ := a3 st (by omega)
      obtain ⟨e1, e2⟩ := c3 (v1 lt :: st) (by simp only [List.length_cons]; omega)
      constructor
      · rw [clF_app, clF_app, d1, e1]
        show tkR lt x _ = _
        exact tkR_2 (by omega) (by omega) (by omega)
      · rw [List.append_assoc, moF_app d2, moF_app e2]
        simp only [moF, moO]
        rw [if_neg (by omega), if_neg (by omega), if_neg (by omega)]
        show some (_ :: st) = some (_ :: st)
        congr 2
        split
        · rfl
        · have ht : x ≤ -13 → (v1 lt = 0 ∨ v1 lt = 1) ∧ (v2 lt = 0 ∨ v2 lt = 1) := fun z => ⟨a2 (hb1 z).1, c2 (hb1 z).2⟩
          split
          · rename_i q
            have ht := ht (by omega)
            have e9 : trS x (v1 lt) (v2 lt) = if v1 lt ≠ 0 ∧ v2 lt ≠ 0 then 1 else 0 := by
              unfold trS
              rw [if_neg (by omega), if_neg (by omega), if_neg (by omega), if_pos q]
            rw [e9]
            by_cases z : v1 lt ≠ 0 ∧ v2 lt ≠ 0
            · rw [if_pos z, if_pos (by omega)]
            · rw [if_neg z, if_neg (by omega)]
          · split
            · rename_i q1 q
              have ht := ht (by omega)
              have e9 : trS x (v1 lt) (v2 lt) = if v1 lt ≠ 0 ∨ v2 lt ≠ 0 then 1 else 0 := by
                unfold trS
                rw [if_neg (by omega), if_neg (by omega), if_neg (by omega), if_neg (by omega)]
              rw [e9]
              by_cases z : v1 lt ≠ 0 ∨ v2 lt ≠ 0
              · rw [if_pos z, if_pos (by omega)]
              · rw [if_neg z, if_neg (by omega)]
            · rfl
theorem Gud.not {t : List Int} {m : Nat} (hm : 1 ≤ m) (ht : Gud t m true) : Gud (t ++ [-15]) m true := by
  obtain ⟨t0, t1, v, t2⟩ := ht
  refine ⟨by simp, fun y hy => ?_, fun lt => if v lt = 0 then 1 else 0, fun lt hl => ?_⟩
  · rcases List.mem_append.mp hy with hy | hy
    · exact t1 y hy
    · rcases List.mem_cons.mp hy with rfl | hy
      · exact ⟨by omega, by omega⟩
      · cases hy
  · obtain ⟨a1, a2, a3⟩ := t2 lt hl
    have a2 := a2 rfl
    refine ⟨?_, fun z => ?_, fun st hs => ?_⟩
    · show inI (if v lt = 0 then 1 else 0)
      split <;> exact ⟨by omega, by omega⟩
    · show (if v lt = 0 then (1 : Int) else 0) = 0 ∨ (if v lt = 0 then (1 : Int) else 0) = 1
      split
      · exact Or.inr rfl
      · exact Or.inl rfl
    · obtain ⟨d1, d2⟩ := a3 st hs
      constructor
      · rw [clF_app, d1]
        show tkR lt (-15) _ = _
        unfold tkR
        rw [if_neg (by omega), if_neg (by omega), if_pos rfl]
        show psh st _ = _
        unfold psh
        rw [if_pos (by omega)]
        rfl
      · rw [moF_app d2]
        simp only [moF, moO]
        rw [if_neg (by omega), if_neg (by omega), if_pos trivial]
        show (match (if v lt = 0 ∨ v lt = 1 then some ((1 - v lt) :: st) else none) with
          | none => none
          | some s => some s) = _
        rw [if_pos a2]
        show some (_ :: st) = some (_ :: st)
        congr 2
        rcases a2 with z | z <;> rw [z] <;> rfl
/-! ===== what is read is good ===== -/
def GdR (r : RP) (m : Nat) (b : Bool) : Prop := r.1 = -1 → Gud r.2.2 m b
def GdF (n : Int) (P : Int → RP) (m : Nat) (b : Bool) : Prop := ∀ i, 0 ≤ i → i ≤ n → GdR (P i) m b
theorem GdR.f {f : Int} (h : f ≠ -1) {m : Nat} {b : Bool} : GdR (rpF f) m b := fun z => absurd z h
theorem GdR.t {a : RP} {g : Int → List Int → RP} {m : Nat} {b : Bool} (hg : a.1 = -1 → GdR (g a.2.1 a.2.2) m b) : GdR (rpT a g) m b := by
  unfold rpT
  split
  · rename_i q; exact hg q
  · rename_i q; exact GdR.f q
theorem brS_gd {b : Int → Int} {n c : Int} {a : RP} {m : Nat} {bb : Bool} (h : GdR a m bb) : GdR (brS b n c a) m bb := GdR.t fun q => GdR.t fun _ => fun _ => h q
theorem atG_gd {b : Int → Int} {n : Int} {sm : Option (Int → RP)} {m : Nat} (hm : 1 ≤ m) (hs : ∀ s, sm = some s → GdF n s m false) : GdF n (atG b n sm) m false := fun i h0 h1 => by
  obtain ⟨s1, s2, -⟩ := skS_b b n i
  have s2 := s2 h1
  unfold atG
  split
  · unfold diS
    split
    · rename_i q1 q2
      have := dgN_b (b := b) (n := n) 4 (skS b n i) 0 (by omega) s2
      exact GdR.f (by omega)
    · have h1 := dgN_v (b := b) (n := n) 4 (skS b n i) 0 (by omega)
      have e : (0 + 1 : Int) * 10 ^ 4 = 10000 := by decide
      rw [e] at h1
      exact fun _ => (Gud.num h1.1 (by omega)).mono hm
  · split
    · rename_i q
      have l1 : skS b n i < n := hrS_lt (b := b) (by omega) (by omega)
      cases sm with
      | none => exact GdR.f (by omega)
      | some s => exact brS_gd (hs s rfl _ (by omega) (by omega))
    · split
      · exact GdR.f (by omega)
      · rename_i q
        have : -5 ≤ lcS (hrS b n (skS b n i)) ∧ lcS (hrS b n (skS b n i)) ≤ 0 := by
          unfold lcS
          repeat (first | omega | split)
        exact fun _ => (Gud.let this.1 (by omega)).mono hm
theorem lpO_gd {b : Int → Int} {n : Int} {P : Int → RP} {c1 o1 c2 o2 i : Int} {M : Nat} (hP : GdF n P M false) (hG : GdP n P) (hc1 : c1 ≠ 0) (hc2 : c2 ≠ 0) (h0 : 0 ≤ i) (h1 : -9 ≤ o1 ∧ o1 ≤ -6) (h2 : -9 ≤ o2 ∧ o2 ≤ -6) : ∀ (m : Nat) (r : RP), RpB n i r → GdR r (M + 1) false → GdR (lpO b n P c1 o1 c2 o2 m r) (M + 1) false
  | 0, r, _, h => h
  | m + 1, r, hb, h => by
    simp only [lpO]
    split
    · rename_i q
      have g1 := hb.2.2 q.1
      have l1 : r.2.1 < n := hrS_lt (b := b) (by omega) (by omega)
      have g2 := hG (r.2.1 + 1) (by omega) (by omega)
      refine lpO_gd hP hG hc1 hc2 h0 h1 h2 m _ ((g2.mono (by omega)).t fun q2 => ?_) (GdR.t fun q2 => fun _ => ?_)
      · have g3 := g2.2.2 q2
        obtain ⟨s1, s2, -⟩ := skS_b b n (P (r.2.1 + 1)).2.1
        have s2 := s2 g3.2.1
        exact ⟨by simp, by show (-1 : Int) ≤ n; omega, fun _ => by simp only [List.length_append, List.length_cons, List.length_nil]; omega⟩
      · refine (h q.1).two (hP _ (by omega) (by omega) q2) (Nat.le_refl _) (Nat.le_refl _) ?_ ?_ (fun z => ?_) (fun z => by cases z)
        · split <;> omega
        · split <;> omega
        · exfalso; revert z; split <;> omega
    · exact h
theorem biG_gd {b : Int → Int} {n : Int} {P : Int → RP} {c1 o1 c2 o2 : Int} {M : Nat} (hP : GdF n P M false) (hG : GdP n P) (hc1 : c1 ≠ 0) (hc2 : c2 ≠ 0) (h1 : -9 ≤ o1 ∧ o1 ≤ -6) (h2 : -9 ≤ o2 ∧ o2 ≤ -6) : GdF n (biG b n P c1 o1 c2 o2) (M + 1) false := fun i h0 hi => by
  refine lpO_gd hP hG hc1 hc2 h0 h1 h2 _ _ ((hG i h0 hi).t fun q => ?_) (GdR.t fun q => fun _ => (hP i h0 hi q).mono (by omega))
  have g3 := (hG i h0 hi).2.2 q
  obtain ⟨s1, s2, -⟩ := skS_b b n (P i).2.1
  have s2 := s2 g3.2.1
  exact ⟨by simp, by show (-1 : Int) ≤ n; omega, fun _ => by simp only; omega⟩
theorem GdF.mono {n : Int} {P : Int → RP} {m m' : Nat} {b : Bool} (h : GdF n P m b) (hm : m ≤ m') : GdF n P m' b := fun i h0 h1 q => (h i h0 h1 q).mono hm
theorem smK_gd (b : Int → Int) (n : Int) : ∀ K : Nat, GdF n (smK b n K) (2 * K + 3) false
  | 0 => biG_gd (biG_gd (atG_gd (m := 1) (by omega) fun s h => by cases h) (atG_b fun s h => by cases h) (by decide) (by decide) (by decide) (by decide)) (tmG_b (atG_b fun s h => by cases h)) (by decide) (by decide) (by decide) (by decide)
  | K + 1 => by
    have h := atG_gd (b := b) (n := n) (sm := some (smK b n K)) (m := 2 * K + 3) (by omega) (fun s h => by cases h; exact smK_gd b n K)
    have hb := atG_b (b := b) (n := n) (sm := some (smK b n K)) (fun s h => by cases h; exact smK_b b n K)
    exact (biG_gd (biG_gd h hb (by decide) (by decide) (by decide) (by decide)) (tmG_b hb) (by decide) (by decide) (by decide) (by decide) : GdF n (smK b n (K + 1)) (2 * K + 3 + 1 + 1) false)
/-- a comparison behind a sum -/
theorem cmG_gd {b : Int → Int} {n : Int} {S : Int → RP} {M : Nat} (hS : GdF n S M false) {t : List Int} (ht : Gud t M false) {i : Int} (h0 : 0 ≤ i) (h1 : i ≤ n) (q : (cmG b n S i).1 = -1) : Gud (t ++ (cmG b n S i).2.2) (M + 1) true := by
  obtain ⟨s1, s2, -⟩ := skS_b b n i
  have s2 := s2 h1
  unfold cmG at q ⊢
  by_cases z : isCm (hrS b n (skS b n i))
  · rw [if_pos z] at q ⊢
    have l1 : skS b n i < n := hrS_lt (b := b) (by omega) (by omega)
    by_cases z2 : (S (skS b n i + 1)).1 = -1
    · rw [rpT_ok z2]
      show Gud (t ++ ((S (skS b n i + 1)).2.2 ++ [coP (hrS b n (skS b n i))])) _ _
      rw [← List.append_assoc]
      have hc : -12 ≤ coP (hrS b n (skS b n i)) ∧ coP (hrS b n (skS b n i)) ≤ -10 := by
        unfold coP
        repeat' split
        all_goals omega
      exact ht.two (hS _ (by omega) (by omega) z2) (by omega) (by omega) (by omega) (by omega) (fun z => by omega) (fun _ => by omega)
    · rw [rpT_no z2] at q; exact absurd q z2
  · rw [if_neg z] at q; have q : skS b n i = -1 := q; omega
theorem lpT_gd {b : Int → Int} {n : Int} {P : Int → RP} {c o i : Int} {M : Nat} {t0 : List Int} (hP : GdF n P M true) (hG : GdP n P) (hc : c ≠ 0) (h0 : 0 ≤ i) (h1 : o = -13 ∨ o = -14) : ∀ (m : Nat) (r : RP), RpB n i r → (r.1 = -1 → Gud (t0 ++ r.2.2) (M + 1) true) → (lpT b n P c o m r).1 = -1 → Gud (t0 ++ (lpT b n P c o m r).2.2) (M + 1) true
  | 0, r, _, h => h
  | m + 1, r, hb, h => by
    intro q9
    by_cases q : r.1 = -1
    · have g1 := hb.2.2 q
      obtain ⟨s1, s2, -⟩ := skS_b b n r.2.1
      have s2 := s2 g1.2.1
      by_cases q2 : hrS b n (skS b n r.2.1) = c
      · have l1 : skS b n r.2.1 < n := hrS_lt (b := b) (by omega) (by omega)
        have g2 := hG (skS b n r.2.1 + 1) (by omega) (by omega)
        rw [lpT_go q q2] at q9 ⊢
        refine lpT_gd hP hG hc h0 h1 m _ ((g2.mono (by omega)).t fun q3 => ?_) (fun q3 => ?_) q9
        · have g3 := g2.2.2 q3
          exact ⟨by simp, by show (-1 : Int) ≤ n; omega, fun _ => by simp only [List.length_append, List.length_cons, List.length_nil]; omega⟩
        · by_cases q4 : (P (skS b n r.2.1 + 1)).1 = -1
          · rw [rpT_ok q4]
            show Gud (t0 ++ (r.2.2 ++ (P (skS b n r.2.1 + 1)).2.2 ++ [o])) _ _
            rw [← List.append_assoc, ← List.append_assoc]
            exact (h q).two (hP _ (by omega) (by omega) q4) (Nat.le_refl _) (Nat.le_refl _) (by omega) (by omega) (fun _ => ⟨rfl, rfl⟩) (fun _ => by omega)
          · rw [rpT_no q4] at q3; exact absurd q3 q4
      · rw [lpT_end q q2 _ (by omega)]
        exact h q
    · rw [lpT_bad q] at q9; exact absurd q9 q
theorem coG_gd {b : Int → Int} {n i : Int} {U : Int → RP} {M : Nat} {t0 : List Int} (hU : GdF n U M true) (hG : GdP n U) (h0 : 0 ≤ i) {r : RP} (hb : RpB n i r) (h : r.1 = -1 → Gud (t0 ++ r.2.2) M true) (q : (coG b n U r).1 = -1) : Gud (t0 ++ (coG b n U r).2.2) (M + 2) true := by
  have hT : GdF n (fun j => trG b n U (U j)) (M + 1) true := fun j a c q2 => by
    have := lpT_gd (t0 := []) hU hG (by decide) a (Or.inl rfl) 240 (U j) (hG j a c) (fun q3 => by rw [List.nil_append]; exact (hU j a c q3).mono (by omega)) q2
    rw [List.nil_append] at this
    exact this
  exact lpT_gd hT (fun j a c => trG_b hG a (hG j a c)) (by decide) h0 (Or.inr rfl) 240 (trG b n U r) (trG_b hG h0 hb) (fun q2 => (lpT_gd hU hG (by decide) h0 (Or.inl rfl) 240 r hb (fun q3 => (h q3).mono (by omega)) q2).mono (by omega)) q
theorem unG_gd {b : Int → Int} {n : Int} {U : Option (Int → RP)} {S : Int → RP} {M : Nat} (hS : GdF n S (M + 3) false) (hSG : GdP n S) (hU : ∀ u, U = some u → GdF n u (M + 2) true ∧ GdP n u) : GdF n (unG b n U S) (M + 4) true := fun i h0 h1 => by
  obtain ⟨s1, s2, -⟩ := skS_b b n i
  have s2 := s2 h1
  by_cases q : hrS b n (skS b n i) = 33
  · have l1 : skS b n i < n := hrS_lt (b := b) (by omega) (by omega)
    cases U with
    | none => rw [unG_33n q]; exact GdR.f (by omega)
    | some u =>
      rw [unG_33 q]
      exact GdR.t fun q2 => fun _ => (Gud.not (by omega) ((hU u rfl).1 _ (by omega) (by omega) q2)).mono (by omega)
  · by_cases q1 : hrS b n (skS b n i) = 40
    · have l1 : skS b n i < n := hrS_lt (b := b) (by omega) (by omega)
      cases U with
      | none => rw [unG_40n q1]; exact GdR.f (by omega)
      | some u =>
        rw [unG_40 q1]
        refine brS_gd fun q2 => ?_
        have := coG_gd (t0 := []) (hU u rfl).1 (hU u rfl).2 (i := skS b n i + 1) (by omega) ((hU u rfl).2 _ (by omega) (by omega)) (fun q3 => by rw [List.nil_append]; exact (hU u rfl).1 _ (by omega) (by omega) q3) q2
        rw [List.nil_append] at this
        exact this
    · rw [unG_s q q1]
      refine GdR.t fun q2 => GdR.t fun q3 => fun _ => ?_
      have g2 := (hSG (skS b n i) (by omega) s2).2.2 q2
      exact cmG_gd hS (hS _ (by omega) s2 q2) (by omega) g2.2.1 q3
theorem unK_gd (b : Int → Int) (n : Int) : ∀ K : Nat, GdF n (unK b n K) (2 * K + 4) true
  | 0 => unG_gd (M := 0) (smK_gd b n 0) (smK_b b n 0) (fun u h => by cases h)
  | K + 1 => (unG_gd (M := 2 * K + 2) (b := b) ((smK_gd b n (K + 1)).mono (by omega)) (smK_b b n (K + 1)) (fun u h => by cases h; exact ⟨unK_gd b n K, unK_b b n K⟩) : GdF n (unK b n (K + 1)) (2 * K + 2 + 4) true)
def ClG1 (c : List Int × List Int) : Prop := (c.1 = [] ∨ Gud c.1 20 true) ∧ Gud c.2 20 false
theorem giG_gd {b : Int → Int} {n : Int} {t : List Int} (ht : t = [] ∨ Gud t 20 true) {j : Int} (h0 : 0 ≤ j) (h1 : j ≤ n) (q : (giG b n t j).1 = -1) : ClG1 (giG b n t j).2.2 := by
  unfold giG at q ⊢
  by_cases q1 : (neS b n 63 j).1 = -1
  · rw [rcT_ok q1] at q ⊢
    have h2 := (neS_b (b := b) (n := n) (c := 63) (i := j) (by decide) h0 h1).2.2 q1
    by_cases q2 : (smK b n 6 (neS b n 63 j).2.1).1 = -1
    · rw [rcT_ok q2]
      exact ⟨ht, (smK_gd b n 6 _ (by omega) h2.2.1 q2).mono (by omega)⟩
    · rw [rcT_no q2] at q; exact absurd q q2
  · rw [rcT_no q1] at q; exact absurd q q1
theorem clG_gd {b : Int → Int} {n i : Int} (h0 : 0 ≤ i) (h1 : i ≤ n) (q : (clG b n i).1 = -1) : ClG1 (clG b n i).2.2 := by
  unfold clG at q ⊢
  by_cases q1 : (neS b n 107 i).1 = -1
  · rw [rcT_ok q1] at q ⊢
    have g1 := (neS_b (b := b) (n := n) (c := 107) (i := i) (by decide) h0 h1).2.2 q1
    by_cases q2 : (neS b n 58 (neS b n 107 i).2.1).1 = -1
    · rw [rcT_ok q2] at q ⊢
      have g2 := (neS_b (b := b) (n := n) (c := 58) (i := (neS b n 107 i).2.1) (by decide) (by omega) g1.2.1).2.2 q2
      generalize (neS b n 58 (neS b n 107 i).2.1).2.1 = j at *
      obtain ⟨s1, s2, -⟩ := skS_b b n j
      have s2 := s2 g2.2.1
      unfold clB at q ⊢
      by_cases z : hrS b n (skS b n j) = 33 ∨ hrS b n (skS b n j) = 40
      · rw [if_pos z] at q ⊢
        have hb := unK_b b n 6 (skS b n j) (by omega) s2
        by_cases q3 : (coG b n (unK b n 6) (unK b n 6 (skS b n j))).1 = -1
        · rw [rcT_ok q3] at q ⊢
          have g3 := (coG_b (b := b) (unK_b b n 6) (by omega) hb).2.2 q3
          have g4 := coG_gd (t0 := []) (unK_gd b n 6) (unK_b b n 6) (i := skS b n j) (by omega) hb (fun q5 => by rw [List.nil_append]; exact unK_gd b n 6 _ (by omega) s2 q5) q3
          rw [List.nil_append] at g4
          exact giG_gd (Or.inr (g4.mono (by omega))) (by omega) g3.2.1 q
        · rw [rcT_no q3] at q; exact absurd q q3
      · rw [if_neg z] at q ⊢
        by_cases q3 : (smK b n 6 (skS b n j)).1 = -1
        · rw [rcT_ok q3] at q ⊢
          have g3 := (smK_b b n 6 (skS b n j) (by omega) s2).2.2 q3
          have g4 := smK_gd b n 6 (skS b n j) (by omega) s2 q3
          generalize (smK b n 6 (skS b n j)).2.1 = j3 at *
          obtain ⟨t1, t2, -⟩ := skS_b b n j3
          have t2 := t2 g3.2.1
          by_cases z2 : isCm (hrS b n (skS b n j3))
          · rw [if_pos z2] at q ⊢
            have hb := cmG_b (b := b) (smK_b b n 6) (skS b n j3) (by omega) t2
            by_cases q4 : (coG b n (unK b n 6) (cmG b n (smK b n 6) (skS b n j3))).1 = -1
            · rw [rcT_ok q4] at q ⊢
              have g5 := (coG_b (b := b) (unK_b b n 6) (by omega) hb).2.2 q4
              have g6 := coG_gd (t0 := (smK b n 6 (skS b n j)).2.2) (unK_gd b n 6) (unK_b b n 6) (i := skS b n j3) (by omega) hb (fun q5 => cmG_gd (smK_gd b n 6) g4 (by omega) t2 q5) q4
              exact giG_gd (Or.inr (g6.mono (by omega))) (by omega) g5.2.1 q
            · rw [rcT_no q4] at q; exact absurd q q4
          · rw [if_neg z2]
            exact ⟨Or.inl rfl, g4.mono (by omega)⟩
        · rw [rcT_no q3] at q; exact absurd q q3
    · rw [rcT_no q2] at q; exact absurd q q2
  · rw [rcT_no q1] at q; exact absurd q q1
def ClsG (c : Cls) : Prop := ∀ q ∈ c, ClG1 q
theorem lpC_gd {b : Int → Int} {n : Int} (hn : 0 ≤ n) : ∀ (m : Nat) (r : RU2), RpB n 0 (fl2 r) → ClsG r.2.2 → ClsG (lpC b n m r).2.2
  | 0, r, _, h => h
  | m + 1, r, hb, h => by
    by_cases q : r.1 = -1
    · have g1 := hb.2.2 q
      have g2 : 0 < r.2.1 ∧ r.2.1 ≤ n := ⟨g1.1, g1.2.1⟩
      have g3 : ((flC r.2.2).length : Int) ≤ r.2.1 - 0 := g1.2.2
      obtain ⟨s1, s2, -⟩ := skS_b b n r.2.1
      have s2 := s2 g2.2
      by_cases q2 : hrS b n (skS b n r.2.1) = 59
      · rw [lpC_go q q2]
        have l1 : skS b n r.2.1 < n := hrS_lt (b := b) (by omega) (by omega)
        refine lpC_gd hn m _ (cl2_b hn (by omega) (by omega) (by omega)) ?_
        unfold cl2
        split
        · rename_i q3
          intro c hc
          rcases List.mem_append.mp hc with hc | hc
          · exact h c hc
          · rcases List.mem_cons.mp hc with rfl | hc
            · exact clG_gd (by omega) (by omega) q3
            · cases hc
        · intro c hc; cases hc
      · rw [lpC_end q q2 _ (by omega)]; exact h
    · rw [lpC_bad q]; exact h
theorem ruR_gd {b : Int → Int} {n : Int} (hn : 0 ≤ n) : ClsG (ruR b n).2 := by
  unfold ruR
  split
  · intro c hc; cases hc
  · split
    · intro c hc; cases hc
    · show ClsG (ruL b n).2.2
      rw [← ruL_eq]
      refine lpC_gd hn _ _ (cl2_b hn (by omega) hn (by simp [flC])) ?_
      unfold cl2
      split
      · rename_i q3
        intro c hc
        rcases List.mem_cons.mp hc with rfl | hc
        · exact clG_gd (by omega) hn q3
        · cases hc
      · intro c hc; cases hc
