/-! ===== places that name arrays, clone, arraycopy, isDigit ===== -/
theorem clX10_32 : Cond.classLink RX10 32 "CornBarn$Land" ∈ tb := (tb_in 230 (by decide +kernel) rfl)
theorem clX10_38 : Cond.classLink RX10 38 "CornBarn$Rule" ∈ tb := (tb_in 232 (by decide +kernel) rfl)
theorem clX10_44 : Cond.classLink RX10 44 "[[I" ∈ tb := (tb_in 234 (by decide +kernel) rfl)
theorem clX10_60 : Cond.classLink RX10 60 "CornBarn$Town" ∈ tb := (tb_in 250 (by decide +kernel) rfl)
theorem clX0_55 : Cond.classLink RX0 55 "[I" ∈ tb := (tb_in 584 (by decide +kernel) rfl)
theorem clX0_75 : Cond.classLink RX0 75 "CornBarn$Plan" ∈ tb := (tb_in 585 (by decide +kernel) rfl)
theorem clJ7_317 : Cond.classLink RJ7 317 "[I" ∈ tb := (tb_in 689 (by decide +kernel) rfl)
theorem qX1_117 : SSU RX1 117 1 ⟨"CornBarn$LandReader", "isDigit", "(I)Z"⟩ mdX3_isDigit := ⟨(tb_in 434 (by decide +kernel) rfl), (tb_in 435 (by decide +kernel) rfl), (tb_in 436 (by decide +kernel) rfl), okX3_isDigit⟩
theorem qX5_92 : SSU RX5 92 1 ⟨"CornBarn$RuleReader", "isDigit", "(I)Z"⟩ mdX3_isDigit := ⟨(tb_in 529 (by decide +kernel) rfl), (tb_in 530 (by decide +kernel) rfl), (tb_in 436 (by decide +kernel) rfl), okX3_isDigit⟩
theorem mlX0_54 : Cond.methodLink RX0 54 ⟨"[I", "clone", "()Ljava/lang/Object;"⟩ ∈ tb := (tb_in 578 (by decide +kernel) rfl)
theorem mlJ7_316 : Cond.methodLink RJ7 316 ⟨"[I", "clone", "()Ljava/lang/Object;"⟩ ∈ tb := (tb_in 688 (by decide +kernel) rfl)
theorem mlJ7_150 : Cond.methodLink RJ7 150 arraycopyName ∈ tb := (tb_in 691 (by decide +kernel) rfl)
