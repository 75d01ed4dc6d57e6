/-! ===== the law: what is known at its start ===== -/
theorem knX0 : ∀ w ∈ u_ws RX0 TX0 20, w ∈ lw_tbl := by decide +kernel
theorem knX1 : ∀ w ∈ u_ws RX1 TX1 15, w ∈ lw_tbl := by decide +kernel
theorem knX2 : ∀ w ∈ u_ws RX2 TX2 10, w ∈ lw_tbl := by decide +kernel
theorem knX4 : ∀ w ∈ u_ws RX4 TX4 4, w ∈ lw_tbl := by decide +kernel
theorem knX5 : ∀ w ∈ u_ws RX5 TX5 5, w ∈ lw_tbl := by decide +kernel
theorem knX6 : ∀ w ∈ u_ws RX6 TX6 2, w ∈ lw_tbl := by decide +kernel
theorem knX7 : ∀ w ∈ u_ws RX7 TX7 4, w ∈ lw_tbl := by decide +kernel
theorem knX8 : ∀ w ∈ u_ws RX8 TX8 2, w ∈ lw_tbl := by decide +kernel
theorem knX9 : ∀ w ∈ u_ws RX9 TX9 8, w ∈ lw_tbl := by decide +kernel
theorem knX10 : ∀ w ∈ u_ws RX10 TX10 13, w ∈ lw_tbl := by decide +kernel
theorem knX11 : ∀ w ∈ u_ws RX11 TX11 49, w ∈ lw_tbl := by decide +kernel
set_option maxRecDepth 100000 in
set_option maxHeartbeats 4000000 in
theorem law_kn {s : State} {args : Array Value} (hts : ∀ w ∈ lw_tbl, w.before args s = true) : ∃ G : GG, KN G s := by
  obtain ⟨c0, iS0, hKn0⟩ := u_known (C := RX0) (T := TX0) (N := 20) (n := 20) hts knX0 (hts (.instantiable RX0 20) (List.mem_of_getElem? (i := 564) (by decide +kernel)))
  obtain ⟨c1, iS1, hKn1⟩ := u_known (C := RX1) (T := TX1) (N := 15) (n := 15) hts knX1 (hts (.instantiable RX1 15) (List.mem_of_getElem? (i := 146) (by decide +kernel)))
  obtain ⟨c2, iS2, hKn2⟩ := u_known (C := RX2) (T := TX2) (N := 10) (n := 10) hts knX2 (hts (.instantiable RX2 10) (List.mem_of_getElem? (i := 782) (by decide +kernel)))
  obtain ⟨c3, iS3, hKn3⟩ := u_known (C := RX4) (T := TX4) (N := 4) (n := 4) hts knX4 (hts (.instantiable RX4 4) (List.mem_of_getElem? (i := 680) (by decide +kernel)))
  obtain ⟨c4, iS4, hKn4⟩ := u_known (C := RX5) (T := TX5) (N := 5) (n := 5) hts knX5 (hts (.instantiable RX5 5) (List.mem_of_getElem? (i := 215) (by decide +kernel)))
  obtain ⟨c5, iS5, hKn5⟩ := u_known (C := RX6) (T := TX6) (N := 2) (n := 2) hts knX6 (hts (.instantiable RX6 2) (List.mem_of_getElem? (i := 237) (by decide +kernel)))
  obtain ⟨c6, iS6, hKn6⟩ := u_known (C := RX7) (T := TX7) (N := 4) (n := 4) hts knX7 (hts (.instantiable RX7 4) (List.mem_of_getElem? (i := 289) (by decide +kernel)))
  obtain ⟨c7, iS7, hKn7⟩ := u_known (C := RX8) (T := TX8) (N := 2) (n := 2) hts knX8 (hts (.instantiable RX8 2) (List.mem_of_getElem? (i := 129) (by decide +kernel)))
  obtain ⟨c8, iS8, hKn8⟩ := u_known (C := RX9) (T := TX9) (N := 8) (n := 8) hts knX9 (hts (.instantiable RX9 8) (List.mem_of_getElem? (i := 252) (by decide +kernel)))
  obtain ⟨c9, iS9, hKn9⟩ := u_known (C := RX10) (T := TX10) (N := 13) (n := 13) hts knX10 (hts (.instantiable RX10 13) (List.mem_of_getElem? (i := 121) (by decide +kernel)))
  obtain ⟨c10, iS10, hKn10⟩ := u_known (C := RX11) (T := TX11) (N := 49) (n := 49) hts knX11 (hts (.instantiable RX11 49) (List.mem_of_getElem? (i := 1230) (by decide +kernel)))
  obtain ⟨a0, ka0, cm0, fa0, ga0, ha0⟩ := Cond.arrayClass_spec (hts (.arrayClass .int) (List.mem_of_getElem? (i := 144) (by decide +kernel)))
  obtain ⟨a1, ka1, cm1, fa1, ga1, ha1⟩ := Cond.arrayClass_spec (hts (.arrayClass .long) (List.mem_of_getElem? (i := 249) (by decide +kernel)))
  obtain ⟨a2, ka2, cm2, fa2, ga2, ha2⟩ := Cond.arrayClass_spec (hts (.arrayClass .boolean) (List.mem_of_getElem? (i := 1383) (by decide +kernel)))
  obtain ⟨cm3, a3, ka3, fo3, -, ga3, ha3, fa3⟩ := Cond.arrayOver_spec (hts (.arrayOver (.object RX0)) (List.mem_of_getElem? (i := 231) (by decide +kernel)))
  obtain ⟨cm4, a4, ka4, fo4, -, ga4, ha4, fa4⟩ := Cond.arrayOver_spec (hts (.arrayOver (.object RX4)) (List.mem_of_getElem? (i := 233) (by decide +kernel)))
  obtain ⟨cm6, a6, ka6, fo6, -, ga6, ha6, fa6⟩ := Cond.arrayOver_spec (hts (.arrayOver (.object RX2)) (List.mem_of_getElem? (i := 586) (by decide +kernel)))
  obtain ⟨cm7, a7, ka7, fo7, -, ga7, ha7, fa7⟩ := Cond.arrayOver_spec (hts (.arrayOver (.object RX9)) (List.mem_of_getElem? (i := 251) (by decide +kernel)))
  obtain ⟨cm5, a5, ka5, fo5, -, ga5, ha5, fa5⟩ := arrayOverA_spec (hts (.arrayOver (.array .int)) (List.mem_of_getElem? (i := 235) (by decide +kernel)))
  refine ⟨(fun k => [c0, c1, c2, c3, c4, c5, c6, c7, c8, c9, c10].getD k c0, fun k => [iS0, iS1, iS2, iS3, iS4, iS5, iS6, iS7, iS8, iS9, iS10].getD k iS0, fun k => [a0, a1, a2, a3, a4, a5, a6, a7].getD k a0), ⟨⟨?_, ?_⟩, ⟨?_, ?_, ?_, ?_⟩⟩⟩
  · intro k q hq
    match k, hq with
    | 0, hq => cases hq; exact hKn0
    | 1, hq => cases hq; exact hKn1
    | 2, hq => cases hq; exact hKn2
    | 3, hq => cases hq; exact hKn3
    | 4, hq => cases hq; exact hKn4
    | 5, hq => cases hq; exact hKn5
    | 6, hq => cases hq; exact hKn6
    | 7, hq => cases hq; exact hKn7
    | 8, hq => cases hq; exact hKn8
    | 9, hq => cases hq; exact hKn9
    | 10, hq => cases hq; exact hKn10
    | k + 11, hq => simp [vwCl] at hq
  · intro k q hq
    match k, hq with
    | 0, hq => cases hq; exact ⟨(fun n z => ⟨fun k h => (by cases h), ka0, ga0, cm0, ha0⟩), fa0⟩
    | 1, hq => cases hq; exact ⟨(fun n z => ⟨fun k h => (by cases h), ka1, ga1, cm1, ha1⟩), fa1⟩
    | 2, hq => cases hq; exact ⟨(fun n z => ⟨fun k h => (by cases h), ka2, ga2, cm2, ha2⟩), fa2⟩
    | 3, hq => cases hq; exact ⟨(fun n z => ⟨fun k h => (by cases h), ka3, ga3, cm3, ha3⟩), ka3, cm3, ga3, ha3, fo3, fa3⟩
    | 4, hq => cases hq; exact ⟨(fun n z => ⟨fun k h => (by cases h), ka4, ga4, cm4, ha4⟩), ka4, cm4, ga4, ha4, fo4, fa4⟩
    | 5, hq => cases hq; exact ⟨(fun n z => ⟨fun k h => (by cases h), ka5, ga5, cm5, ha5⟩), fa5⟩
    | 6, hq => cases hq; exact ⟨(fun n z => ⟨fun k h => (by cases h), ka6, ga6, cm6, ha6⟩), ka6, cm6, ga6, ha6, fo6, fa6⟩
    | 7, hq => cases hq; exact ⟨(fun n z => ⟨fun k h => (by cases h), ka7, ga7, cm7, ha7⟩), ka7, cm7, ga7, ha7, fo7, fa7⟩
    | k + 8, hq => simp [atys] at hq
  · intro C hC
    simp only [List.mem_cons, List.not_mem_nil, or_false] at hC
    rcases hC with rfl | rfl | rfl | rfl
    · exact va_AO.of (hts (.arrayOver (.object RX0)) (List.mem_of_getElem? (i := 231) (by decide +kernel)))
    · exact va_AO.of (hts (.arrayOver (.object RX4)) (List.mem_of_getElem? (i := 233) (by decide +kernel)))
    · exact va_AO.of (hts (.arrayOver (.object RX9)) (List.mem_of_getElem? (i := 251) (by decide +kernel)))
    · exact va_AO.of (hts (.arrayOver (.object RX2)) (List.mem_of_getElem? (i := 586) (by decide +kernel)))
  · exact hts (.arrayOver (.array .int)) (List.mem_of_getElem? (i := 235) (by decide +kernel))
  · exact va_Nw.of rfl (hts (.castable "[I" "java/lang/Cloneable") (List.mem_of_getElem? (i := 583) (by decide +kernel)))
  · intro q hq
    simp only [nestL, List.mem_cons, List.not_mem_nil, or_false] at hq
    rcases hq with rfl | rfl | rfl | rfl
    · exact va_Nw.of rfl (hts (.methodLinkNest RX10 11 yX8_init RX10) (List.mem_of_getElem? (i := 130) (by decide +kernel)))
    · exact va_Nw.of rfl (hts (.methodLinkNest RX10 66 yX9_init RX10) (List.mem_of_getElem? (i := 253) (by decide +kernel)))
    · exact va_Nw.of rfl (hts (.methodLinkNest RX1 120 yX10_within RX10) (List.mem_of_getElem? (i := 438) (by decide +kernel)))
    · exact va_Nw.of rfl (hts (.methodLinkNest RX0 102 yX10_within RX10) (List.mem_of_getElem? (i := 723) (by decide +kernel)))
theorem str_at {t : Term} {cls : String} {args : Array Value} {s : State} (h : (Cond.exactly t cls).before args s = true) : ∃ a : Nat, t.eval args s none [] s = some (.ref a) := by
  simp only [Cond.before, Cond.holds, Cond.value] at h
  cases hv : t.eval args s none [] s with
  | none => simp [hv] at h
  | some v =>
    cases v with
    | ref a => exact ⟨a, rfl⟩
    | _ => (cases hc9 : s.vm.findClass cls <;> simp [hv, hc9] at h)
set_option maxRecDepth 100000 in
set_option maxHeartbeats 4000000 in
theorem law_zx {s : State} {args : Array Value} (hts : ∀ w ∈ lw_tbl, w.before args s = true) (hgv : (Jvm.Cond.and given_1 narrow_1).before args s = true) : ZX s.heap.size s := by
  have hs := flat_of_before _ hgv
  refine ⟨vx_Zqof (hts _ (List.mem_of_getElem? (i := 1170) (by decide +kernel))) (hts _ (List.mem_of_getElem? (i := 115) (by decide +kernel))) (hs (.isRef (.static "java/lang/Throwable" "UNASSIGNED_STACK" "[Ljava/lang/StackTraceElement;")) (by decide +kernel)) (fun a ha => Nat.not_le.mpr ha), vx_Zqof (hts _ (List.mem_of_getElem? (i := 1172) (by decide +kernel))) (hts _ (List.mem_of_getElem? (i := 115) (by decide +kernel))) (hs (.isRef (.static "java/lang/Throwable" "SUPPRESSED_SENTINEL" "Ljava/util/List;")) (by decide +kernel)) (fun a ha => Nat.not_le.mpr ha), fun q hq => ?_, va_Nw.of rfl (hts _ (List.mem_of_getElem? (i := 1145) (by decide +kernel))), va_Nw.of rfl (hts (.declares (iniS "java/lang/RuntimeException")) (List.mem_of_getElem? (i := 1147) (by decide +kernel))), va_Nw.of rfl (hts (.declares (iniS "java/lang/Exception")) (List.mem_of_getElem? (i := 1149) (by decide +kernel))), va_Nw.of rfl (hts (.declares (iniS "java/lang/Throwable")) (List.mem_of_getElem? (i := 1151) (by decide +kernel)))⟩
  · simp only [strL, List.mem_cons, List.not_mem_nil, or_false] at hq
    rcases hq with rfl | rfl | rfl | rfl | rfl
    · obtain ⟨sa, hsa⟩ := str_at (hs (.exactly (.string "CornBarn" 148) "java/lang/String") (by decide +kernel))
      exact ⟨sa, vk_R.of (hts (.stringRef "CornBarn" 148 "no such harvest") (List.mem_of_getElem? (i := 1182) (by decide +kernel))) hsa⟩
    · obtain ⟨sa, hsa⟩ := str_at (hs (.exactly (.string "CornBarn" 153) "java/lang/String") (by decide +kernel))
      exact ⟨sa, vk_R.of (hts (.stringRef "CornBarn" 153 "no such thing of a harvest") (List.mem_of_getElem? (i := 1209) (by decide +kernel))) hsa⟩
    · obtain ⟨sa, hsa⟩ := str_at (hs (.exactly (.string "CornBarn" 177) "java/lang/String") (by decide +kernel))
      exact ⟨sa, vk_R.of (hts (.stringRef "CornBarn" 177 "no such rule") (List.mem_of_getElem? (i := 1217) (by decide +kernel))) hsa⟩
    · obtain ⟨sa, hsa⟩ := str_at (hs (.exactly (.string "CornBarn" 289) "java/lang/String") (by decide +kernel))
      exact ⟨sa, vk_R.of (hts (.stringRef "CornBarn" 289 "no such season of a run") (List.mem_of_getElem? (i := 1226) (by decide +kernel))) hsa⟩
    · obtain ⟨sa, hsa⟩ := str_at (hs (.exactly (.string "CornBarn" 291) "java/lang/String") (by decide +kernel))
      exact ⟨sa, vk_R.of (hts (.stringRef "CornBarn" 291 "no such thing of a season") (List.mem_of_getElem? (i := 1227) (by decide +kernel))) hsa⟩
