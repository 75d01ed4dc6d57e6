/-! ===== the law: its loop ===== -/
theorem law_sw {w : MC} {k : WC} {d n : Nat} {xs : Nat → Int32} {n1 n2 : Nat} {i : Int} {S : BaS} {th : Int} {f : Int → Int} {h : AH} {r : Int} (hri : inI r) {z5 z6 : Option AV} (hd : 310 ≤ d) (hntr : k.1.stackTraces = false) (hc : Cx w k d 601024 7293034 mdL_law) (hsc : Sc w n xs) (hi0 : 0 ≤ i) (hi1 : i + 9 ≤ n) (hn1 : n1 + 20 ≤ 601024) (hn2 : n2 + 10000 ≤ 7293034) (hst : LwS h S th f) (hk : ∀ (m1 m2 : Nat) (S1 : BaS) (th1 : Int) (f1 : Int → Int) (h1 : AH) (y5 y6 : Option AV), m1 ≤ n1 + 20 → m2 ≤ n2 + 10000 → LwS h1 S1 th1 f1 → JL w m1 m2 2052 [none, some (vR (0, 0)), some (vR (70, 0)), some (vR (99, 0)), some (vI i), y5, y6] [] h1) : JL w n1 n2 40 [none, some (vR (0, 0)), some (vR (70, 0)), some (vR (99, 0)), some (vI i), z5, z6] [vI r] h := by
  rcases (by omega : (r < 0 ∨ 33 < r) ∨ r = 0 ∨ r = 1 ∨ r = 2 ∨ r = 3 ∨ r = 4 ∨ r = 5 ∨ r = 6 ∨ r = 7 ∨ r = 8 ∨ r = 9 ∨ r = 10 ∨ r = 11 ∨ r = 12 ∨ r = 13 ∨ r = 14 ∨ r = 15 ∨ r = 16 ∨ r = 17 ∨ r = 18 ∨ r = 19 ∨ r = 20 ∨ r = 21 ∨ r = 22 ∨ r = 23 ∨ r = 24 ∨ r = 25 ∨ r = 26 ∨ r = 27 ∨ r = 28 ∨ r = 29 ∨ r = 30 ∨ r = 31 ∨ r = 32 ∨ r = 33) with zr | zr | zr | zr | zr | zr | zr | zr | zr | zr | zr | zr | zr | zr | zr | zr | zr | zr | zr | zr | zr | zr | zr | zr | zr | zr | zr | zr | zr | zr | zr | zr | zr | zr | zr
  · refine l_tableOut (tgt := 2052) hc dL_law_40 hri zr (by decide) ?_
    exact hk _ _ S th f _ _ _ (by omega) (by omega) hst
  · subst zr
    refine l_tableIn (tgt := 192) (off := 152) hc dL_law_40 (by exact ⟨by omega, by omega⟩) (by omega) (by omega) rfl (by decide) ?_
    exact law_c0 hd hntr hc hsc (by omega) (by omega) (by omega) (by omega) hst hk
  · subst zr
    refine l_tableIn (tgt := 265) (off := 225) hc dL_law_40 (by exact ⟨by omega, by omega⟩) (by omega) (by omega) rfl (by decide) ?_
    exact law_c1 hd hntr hc hsc (by omega) (by omega) (by omega) (by omega) hst hk
  · subst zr
    refine l_tableIn (tgt := 290) (off := 250) hc dL_law_40 (by exact ⟨by omega, by omega⟩) (by omega) (by omega) rfl (by decide) ?_
    exact law_c2 hd hntr hc hsc (by omega) (by omega) (by omega) (by omega) hst hk
  · subst zr
    refine l_tableIn (tgt := 315) (off := 275) hc dL_law_40 (by exact ⟨by omega, by omega⟩) (by omega) (by omega) rfl (by decide) ?_
    exact law_c3 hd hntr hc hsc (by omega) (by omega) (by omega) (by omega) hst hk
  · subst zr
    refine l_tableIn (tgt := 328) (off := 288) hc dL_law_40 (by exact ⟨by omega, by omega⟩) (by omega) (by omega) rfl (by decide) ?_
    exact law_c4 hd hntr hc hsc (by omega) (by omega) (by omega) (by omega) hst hk
  · subst zr
    refine l_tableIn (tgt := 341) (off := 301) hc dL_law_40 (by exact ⟨by omega, by omega⟩) (by omega) (by omega) rfl (by decide) ?_
    exact law_c5 hd hntr hc hsc (by omega) (by omega) (by omega) (by omega) hst hk
  · subst zr
    refine l_tableIn (tgt := 378) (off := 338) hc dL_law_40 (by exact ⟨by omega, by omega⟩) (by omega) (by omega) rfl (by decide) ?_
    exact law_c6 hd hntr hc hsc (by omega) (by omega) (by omega) (by omega) hst hk
  · subst zr
    refine l_tableIn (tgt := 470) (off := 430) hc dL_law_40 (by exact ⟨by omega, by omega⟩) (by omega) (by omega) rfl (by decide) ?_
    exact law_c7 hd hntr hc hsc (by omega) (by omega) (by omega) (by omega) hst hk
  · subst zr
    refine l_tableIn (tgt := 519) (off := 479) hc dL_law_40 (by exact ⟨by omega, by omega⟩) (by omega) (by omega) rfl (by decide) ?_
    exact law_c8 hd hntr hc hsc (by omega) (by omega) (by omega) (by omega) hst hk
  · subst zr
    refine l_tableIn (tgt := 556) (off := 516) hc dL_law_40 (by exact ⟨by omega, by omega⟩) (by omega) (by omega) rfl (by decide) ?_
    exact law_c9 hd hntr hc hsc (by omega) (by omega) (by omega) (by omega) hst hk
  · subst zr
    refine l_tableIn (tgt := 593) (off := 553) hc dL_law_40 (by exact ⟨by omega, by omega⟩) (by omega) (by omega) rfl (by decide) ?_
    exact law_c10 hd hntr hc hsc (by omega) (by omega) (by omega) (by omega) hst hk
  · subst zr
    refine l_tableIn (tgt := 630) (off := 590) hc dL_law_40 (by exact ⟨by omega, by omega⟩) (by omega) (by omega) rfl (by decide) ?_
    exact law_c11 hd hntr hc hsc (by omega) (by omega) (by omega) (by omega) hst hk
  · subst zr
    refine l_tableIn (tgt := 748) (off := 708) hc dL_law_40 (by exact ⟨by omega, by omega⟩) (by omega) (by omega) rfl (by decide) ?_
    exact law_c12 hd hntr hc hsc (by omega) (by omega) (by omega) (by omega) hst hk
  · subst zr
    refine l_tableIn (tgt := 821) (off := 781) hc dL_law_40 (by exact ⟨by omega, by omega⟩) (by omega) (by omega) rfl (by decide) ?_
    exact law_c13 hd hntr hc hsc (by omega) (by omega) (by omega) (by omega) hst hk
  · subst zr
    refine l_tableIn (tgt := 894) (off := 854) hc dL_law_40 (by exact ⟨by omega, by omega⟩) (by omega) (by omega) rfl (by decide) ?_
    exact law_c14 hd hntr hc hsc (by omega) (by omega) (by omega) (by omega) hst hk
  · subst zr
    refine l_tableIn (tgt := 967) (off := 927) hc dL_law_40 (by exact ⟨by omega, by omega⟩) (by omega) (by omega) rfl (by decide) ?_
    exact law_c15 hd hntr hc hsc (by omega) (by omega) (by omega) (by omega) hst hk
  · subst zr
    refine l_tableIn (tgt := 1017) (off := 977) hc dL_law_40 (by exact ⟨by omega, by omega⟩) (by omega) (by omega) rfl (by decide) ?_
    exact law_c16 hd hntr hc hsc (by omega) (by omega) (by omega) (by omega) hst hk
  · subst zr
    refine l_tableIn (tgt := 1091) (off := 1051) hc dL_law_40 (by exact ⟨by omega, by omega⟩) (by omega) (by omega) rfl (by decide) ?_
    exact law_c17 hd hntr hc hsc (by omega) (by omega) (by omega) (by omega) hst hk
  · subst zr
    refine l_tableIn (tgt := 1153) (off := 1113) hc dL_law_40 (by exact ⟨by omega, by omega⟩) (by omega) (by omega) rfl (by decide) ?_
    exact law_c18 hd hntr hc hsc (by omega) (by omega) (by omega) (by omega) hst hk
  · subst zr
    refine l_tableIn (tgt := 1202) (off := 1162) hc dL_law_40 (by exact ⟨by omega, by omega⟩) (by omega) (by omega) rfl (by decide) ?_
    exact law_c19 hd hntr hc hsc (by omega) (by omega) (by omega) (by omega) hst hk
  · subst zr
    refine l_tableIn (tgt := 1239) (off := 1199) hc dL_law_40 (by exact ⟨by omega, by omega⟩) (by omega) (by omega) rfl (by decide) ?_
    exact law_c20 hd hntr hc hsc (by omega) (by omega) (by omega) (by omega) hst hk
  · subst zr
    refine l_tableIn (tgt := 1300) (off := 1260) hc dL_law_40 (by exact ⟨by omega, by omega⟩) (by omega) (by omega) rfl (by decide) ?_
    exact law_c21 hd hntr hc hsc (by omega) (by omega) (by omega) (by omega) hst hk
  · subst zr
    refine l_tableIn (tgt := 1361) (off := 1321) hc dL_law_40 (by exact ⟨by omega, by omega⟩) (by omega) (by omega) rfl (by decide) ?_
    exact law_c22 hd hntr hc hsc (by omega) (by omega) (by omega) (by omega) hst hk
  · subst zr
    refine l_tableIn (tgt := 1410) (off := 1370) hc dL_law_40 (by exact ⟨by omega, by omega⟩) (by omega) (by omega) rfl (by decide) ?_
    exact law_c23 hd hntr hc hsc (by omega) (by omega) (by omega) (by omega) hst hk
  · subst zr
    refine l_tableIn (tgt := 1472) (off := 1432) hc dL_law_40 (by exact ⟨by omega, by omega⟩) (by omega) (by omega) rfl (by decide) ?_
    exact law_c24 hd hntr hc hsc (by omega) (by omega) (by omega) (by omega) hst hk
  · subst zr
    refine l_tableIn (tgt := 1588) (off := 1548) hc dL_law_40 (by exact ⟨by omega, by omega⟩) (by omega) (by omega) rfl (by decide) ?_
    exact law_c25 hd hntr hc hsc (by omega) (by omega) (by omega) (by omega) hst hk
  · subst zr
    refine l_tableIn (tgt := 1625) (off := 1585) hc dL_law_40 (by exact ⟨by omega, by omega⟩) (by omega) (by omega) rfl (by decide) ?_
    exact law_c26 hd hntr hc hsc (by omega) (by omega) (by omega) (by omega) hst hk
  · subst zr
    refine l_tableIn (tgt := 1650) (off := 1610) hc dL_law_40 (by exact ⟨by omega, by omega⟩) (by omega) (by omega) rfl (by decide) ?_
    exact law_c27 hd hntr hc hsc (by omega) (by omega) (by omega) (by omega) hst hk
  · subst zr
    refine l_tableIn (tgt := 1711) (off := 1671) hc dL_law_40 (by exact ⟨by omega, by omega⟩) (by omega) (by omega) rfl (by decide) ?_
    exact law_c28 hd hntr hc hsc (by omega) (by omega) (by omega) (by omega) hst hk
  · subst zr
    refine l_tableIn (tgt := 1772) (off := 1732) hc dL_law_40 (by exact ⟨by omega, by omega⟩) (by omega) (by omega) rfl (by decide) ?_
    exact law_c29 hd hntr hc hsc (by omega) (by omega) (by omega) (by omega) hst hk
  · subst zr
    refine l_tableIn (tgt := 1873) (off := 1833) hc dL_law_40 (by exact ⟨by omega, by omega⟩) (by omega) (by omega) rfl (by decide) ?_
    exact law_c30 hd hntr hc hsc (by omega) (by omega) (by omega) (by omega) hst hk
  · subst zr
    refine l_tableIn (tgt := 1953) (off := 1913) hc dL_law_40 (by exact ⟨by omega, by omega⟩) (by omega) (by omega) rfl (by decide) ?_
    exact law_c31 hd hntr hc hsc (by omega) (by omega) (by omega) (by omega) hst hk
  · subst zr
    refine l_tableIn (tgt := 1966) (off := 1926) hc dL_law_40 (by exact ⟨by omega, by omega⟩) (by omega) (by omega) rfl (by decide) ?_
    exact law_c32 hd hntr hc hsc (by omega) (by omega) (by omega) (by omega) hst hk
  · subst zr
    refine l_tableIn (tgt := 2027) (off := 1987) hc dL_law_40 (by exact ⟨by omega, by omega⟩) (by omega) (by omega) rfl (by decide) ?_
    exact law_c33 hd hntr hc hsc (by omega) (by omega) (by omega) (by omega) hst hk
set_option maxRecDepth 100000 in
set_option maxHeartbeats 4000000 in
theorem lp_law {w : MC} {k : WC} {d n : Nat} {xs : Nat → Int32} (hd : 310 ≤ d) (hn : n ≤ 4608) (hntr : k.1.stackTraces = false) (hc : Cx w k d 601024 7293034 mdL_law) (hsc : Sc w n xs) (hend : ∀ (m1 m2 : Nat) (L : List (Option AV)) (h : AH), L.length = 7 → m1 ≤ 601024 → m2 ≤ 7293034 → JL w m1 m2 2059 L [vI 1] h) : ∀ (zm t : Nat) (S : BaS) (th : Int) (f : Int → Int) (h : AH) (z5 z6 : Option AV), 512 - t = zm → t ≤ 512 → LwS h S th f → JL w (200 + 20 * t) (70000 + 10000 * t) 23 [none, some (vR (0, 0)), some (vR (70, 0)), some (vR (99, 0)), some (vI (9 * (t : Int))), z5, z6] [] h := by
  intro zm
  induction zm using Nat.strongRecOn with
  | _ zm ih =>
    intro t S th f h z5 z6 hzm ht hst
    refine l_iload hc dL_law_23 rfl ?_
    refine l_slen hc hsc dL_law_25 dL_law_26 ?_
    refine l_bipush hc dL_law_27 (by decide) ?_
    refine l_isub hc dL_law_29 ?_
    refine l_icmp_gt (tgt := 2058) hc dL_law_30 (by decide) ⟨by omega, by omega⟩ ⟨by omega, by omega⟩ (fun zc => ?_) (fun zc => ?_)
    · refine l_iconst hc dL_law_2058 ?_
      exact hend _ _ _ _ rfl (by omega) (by omega)
    · have hi1 : 9 * (t : Int) + 9 ≤ n := by omega
      refine l_arg0 hc hsc dL_law_33 dL_law_34 dL_law_36 rfl (by omega) (by omega) ?_
      refine l_bipush hc dL_law_37 (by decide) ?_
      refine l_iand (r := (Int32.ofInt (scx xs (9 * (t : Int))) &&& Int32.ofInt 63).toInt) hc dL_law_39 (Int32.ofInt_toInt _).symm ?_
      refine law_sw (S := S) (th := th) (f := f) (by have h1 := Int32.le_toInt (Int32.ofInt (scx xs (9 * (t : Int))) &&& Int32.ofInt 63); have h2 := Int32.toInt_lt (Int32.ofInt (scx xs (9 * (t : Int))) &&& Int32.ofInt 63); exact ⟨by omega, by omega⟩) hd hntr hc hsc (by omega) hi1 (by omega) (by omega) hst ?_
      intro m1 m2 S1 th1 f1 h1 y5 y6 hm1 hm2 hst1
      refine l_iinc (L' := [_, _, _, _, _, _, _]) hc dL_law_2052 rfl (Nat.le_of_ble_eq_true rfl) (by decide) rfl ?_
      refine l_goto (tgt := 23) hc dL_law_2055 (by decide) ?_
      rw [show (9 * (t : Int) + 9) = 9 * ((t + 1 : Nat) : Int) by omega]
      exact l_widen (n1' := 200 + 20 * (t + 1)) (n2' := 70000 + 10000 * (t + 1)) (by omega) (by omega) (ih (512 - (t + 1)) (by omega) (t + 1) S1 th1 f1 h1 y5 y6 rfl (by omega) hst1)
