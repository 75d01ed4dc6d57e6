/-! ===== two rows of ints at once ===== -/
section Rules5
variable {w : MC} {k : WC} {d mc ms : Nat} {y : MD} {n1 n2 pc : Nat} {L : List (Option AV)} {st : List AV} {h : AH}
theorem j_mna {idx : Nat} (hc : Cx w k d mc ms y) (hd : decode y.2.1 pc = .ok (.multianewarray idx 2, 4)) (hw : Cond.classLink y.1.cls idx "[[I" ∈ tb) (hwI : Cond.arrayClass .int ∈ tb) (hf0 : h (13, 0) = none) (hf1 : h (14, 0) = none) (hf2 : h (14, 1) = none) (h1 : n1 + 3 ≤ mc) (h2 : n2 + 82 ≤ ms) (kk : J w (n1 + 3) (n2 + 82) (pc + 4) L (vR (13, 0) :: st) (rwH h)) : J w n1 n2 pc L (vI 40 :: vI 2 :: st) h := by
  sorry
end Rules5
