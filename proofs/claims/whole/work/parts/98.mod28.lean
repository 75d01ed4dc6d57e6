/-! ===== the reference reads ===== -/
def hrM (b : Int → Int) (n i : Int) : Int := if i < n then b i else -1
def RdM (s : Int → Int) (A : MAs) (b : Int → Int) (n : Int) : Prop := s 2 = n ∧ (0 ≤ n ∧ n ≤ 240) ∧ ∀ j : Int, 0 ≤ j → j < n → A 1 j = b j ∧ 1 ≤ b j ∧ b j ≤ 255
theorem hrM_b {s : Int → Int} {A : MAs} {b : Int → Int} {n i : Int} (h : RdM s A b n) (h0 : 0 ≤ i) : -1 ≤ hrM b n i ∧ hrM b n i ≤ 255 ∧ hrM b n i ≠ 0 := by
  unfold hrM
  split
  · have := (h.2.2 i h0 (by omega)).2
    omega
  · omega
theorem hrM_S {s : Int → Int} {A : MAs} {b : Int → Int} {n i : Int} (h : RdM s A b n) (h0 : 0 ≤ i) : (i < n ∧ hrM b n i = hrS b n i ∧ 1 ≤ hrS b n i) ∨ (n ≤ i ∧ hrM b n i = -1 ∧ hrS b n i = 0) := by
  unfold hrM hrS
  by_cases q : i < n
  · rw [if_pos q, if_pos ⟨h0, q⟩]
    exact Or.inl ⟨q, rfl, (h.2.2 i h0 q).2.1⟩
  · rw [if_neg q, if_neg (by omega)]
    exact Or.inr ⟨by omega, rfl, rfl⟩
def LkP (s : Int → Int) (A : MAs) (b : Int → Int) (n : Int) (h : AH) (q : Int) : Option AV → AH → Prop := pe fun v h' => v = vI (hrM b n q) ∧ MdS h' (fu s 3 q) A ∧ Fr (fun z => z = (70, 0)) h h'
set_option maxRecDepth 100000 in
set_option maxHeartbeats 4000000 in
theorem ev_X11_here {k : WC} {d : Nat} {h : AH} {s : Int → Int} {A : MAs} {b : Int → Int} {n : Int} (hd : 1 ≤ d) (hS : MdS h s A) (hT : RdM s A b n) (h3 : 0 ≤ s 3) (h4 : s 3 ≤ 1000) : Ev k d mdX11_here h [vR (70, 0)] 0 0 (pr (vI (hrM b n (s 3))) h) := by
  obtain ⟨t1, t2, t3⟩ := id hT
  refine Ev.mk (by decide +kernel) [_] rfl (Nat.le_of_ble_eq_true rfl) (fun w hc he => ?_)
  refine j_aload_n hc dX11_here_0 rfl ?_
  refine j_get hc dX11_here_1 fX11_125 hS.1 rfl ?_
  refine j_aload_n hc dX11_here_4 rfl ?_
  refine j_get hc dX11_here_5 fX11_122 hS.1 rfl ?_
  rw [t1]
  refine j_icmp_ge (tgt := 23) hc dX11_here_8 (by decide) ⟨by omega, by omega⟩ ⟨by omega, by omega⟩ (fun zc1 => ?_) (fun zc1 => ?_)
  · refine j_iconst hc dX11_here_23 ?_
    exact j_iret hc he dX11_here_24 rfl (by omega) (by omega) ⟨vI_eq (by unfold hrM; first | rw [if_pos (by omega)] | rw [if_neg (by omega)]), rfl⟩
  · refine j_aload_n hc dX11_here_11 rfl ?_
    refine j_get hc dX11_here_12 fX11_9 hS.1 rfl ?_
    refine j_aload_n hc dX11_here_15 rfl ?_
    refine j_get hc dX11_here_16 fX11_125 hS.1 rfl ?_
    refine j_iald hc dX11_here_19 hS.2.1 (by omega) (by omega) ?_
    rw [(t3 (s 3) (by omega) (by omega)).1]
    refine j_goto (tgt := 24) hc dX11_here_20 (by decide) ?_
    exact j_iret hc he dX11_here_24 rfl (by omega) (by omega) ⟨vI_eq (by unfold hrM; first | rw [if_pos (by omega)] | rw [if_neg (by omega)]), rfl⟩
set_option maxRecDepth 100000 in
set_option maxHeartbeats 4000000 in
theorem ev_X11_isDigit {k : WC} {d : Nat} {h : AH} {c : Int} (hd : 1 ≤ d) (hc0 : inI c) : Ev k d mdX11_isDigit h [vI c] 0 0 (pr (vI (if dgS c then 1 else 0)) h) := by
  refine Ev.mk (by decide +kernel) [_] rfl (Nat.le_of_ble_eq_true rfl) (fun w hc he => ?_)
  refine j_iload_n hc dX11_isDigit_0 rfl ?_
  refine j_bipush hc dX11_isDigit_1 (by decide) ?_
  refine j_icmp_lt (tgt := 16) hc dX11_isDigit_3 (by decide) hc0 ⟨by omega, by omega⟩ (fun zc1 => ?_) (fun zc1 => ?_)
  · refine j_iconst hc dX11_isDigit_16 ?_
    exact j_zret hc he dX11_isDigit_17 rfl (by omega) (by omega) (by first | exact Or.inl rfl | exact Or.inr rfl) ⟨vI_eq (by first | rw [if_pos (by omega)] | rw [if_neg (by omega)]), rfl⟩
  · refine j_iload_n hc dX11_isDigit_6 rfl ?_
    refine j_bipush hc dX11_isDigit_7 (by decide) ?_
    refine j_icmp_gt (tgt := 16) hc dX11_isDigit_9 (by decide) hc0 ⟨by omega, by omega⟩ (fun zc2 => ?_) (fun zc2 => ?_)
    · refine j_iconst hc dX11_isDigit_16 ?_
      exact j_zret hc he dX11_isDigit_17 rfl (by omega) (by omega) (by first | exact Or.inl rfl | exact Or.inr rfl) ⟨vI_eq (by first | rw [if_pos (by omega)] | rw [if_neg (by omega)]), rfl⟩
    · refine j_iconst hc dX11_isDigit_12 ?_
      refine j_goto (tgt := 17) hc dX11_isDigit_13 (by decide) ?_
      exact j_zret hc he dX11_isDigit_17 rfl (by omega) (by omega) (by first | exact Or.inl rfl | exact Or.inr rfl) ⟨vI_eq (by first | rw [if_pos (by omega)] | rw [if_neg (by omega)]), rfl⟩
set_option maxRecDepth 100000 in
set_option maxHeartbeats 4000000 in
theorem ev_X11_bad {k : WC} {d : Nat} {h : AH} {s : Int → Int} {A : MAs} (hd : 1 ≤ d) (hS : MdS h s A) (h3 : inI (s 3)) (h4 : inI (s 4)) : Ev k d mdX11_bad h [vR (70, 0)] 0 0 (pn fun h' => MdS h' (fu s 4 (if s 4 = -1 then s 3 else s 4)) A ∧ Fr (fun z => z = (70, 0)) h h') := by
  refine Ev.mk (by decide +kernel) [_] rfl (Nat.le_of_ble_eq_true rfl) (fun w hc he => ?_)
  refine j_aload_n hc dX11_bad_0 rfl ?_
  refine j_aload_n hc dX11_bad_1 rfl ?_
  refine j_get hc dX11_bad_2 fX11_132 hS.1 rfl ?_
  refine j_iconst hc dX11_bad_5 ?_
  refine j_icmp_ne (tgt := 16) hc dX11_bad_6 (by decide) h4 ⟨by omega, by omega⟩ (fun zc1 => ?_) (fun zc1 => ?_)
  · refine j_aload_n hc dX11_bad_16 rfl ?_
    refine j_get hc dX11_bad_17 fX11_132 hS.1 rfl ?_
    refine j_put  hc dX11_bad_20 pX11_132 hS.1 rfl mset_4 ?_
    generalize ezh1 : up _ _ _ = zh1
    have zzmod_zh1 := MdS.pf ezh1 hS
    exact j_vret hc he dX11_bad_23 rfl (by omega) (by omega) ⟨rfl, by have zz := zzmod_zh1; first | (rw [if_pos (by assumption)]; exact zz) | (rw [if_neg (by assumption)]; exact zz), (by rw [← ezh1]; exact Fr.push (Fr.rf _ _) rfl)⟩
  · refine j_aload_n hc dX11_bad_9 rfl ?_
    refine j_get hc dX11_bad_10 fX11_125 hS.1 rfl ?_
    refine j_goto (tgt := 20) hc dX11_bad_13 (by decide) ?_
    refine j_put  hc dX11_bad_20 pX11_132 hS.1 rfl mset_4 ?_
    generalize ezh2 : up _ _ _ = zh2
    have zzmod_zh2 := MdS.pf ezh2 hS
    exact j_vret hc he dX11_bad_23 rfl (by omega) (by omega) ⟨rfl, by have zz := zzmod_zh2; first | (rw [if_pos (by assumption)]; exact zz) | (rw [if_neg (by assumption)]; exact zz), (by rw [← ezh2]; exact Fr.push (Fr.rf _ _) rfl)⟩
set_option maxRecDepth 100000 in
set_option maxHeartbeats 4000000 in
theorem lp_X11_look {k : WC} {d : Nat} {w : MC} {h0 : AH} {s : Int → Int} {A : MAs} {b : Int → Int} {n : Int} (hd : 2 ≤ d) (hT : RdM s A b n) (hc : Cx w k d 0 0 mdX11_look) : ∀ (zm : Nat) (i : Int) (h : AH), (n - i).toNat = zm → 0 ≤ i → i ≤ 900 → Ends w 0 0 (LkP s A b n h0 (skN b n zm i)) → MdS h (fu s 3 i) A → Fr (fun z => z = (70, 0)) h0 h → J w 0 0 0 [some (vR (70, 0))] [] h := by
  intro zm
  induction zm using Nat.strongRecOn with
  | _ zm ih =>
    intro i h hm hi0 hi1 he hS hF
    have hn := hT.2.1
    have zhb := hrM_b hT hi0
    refine j_aload_n hc dX11_look_0 rfl ?_
    refine j_callV (d' := d - 1) hc dX11_look_1 vX11_128 hS.1 (ev_X11_here (by omega) hS (show RdM (fu s 3 i) A b n from hT) (by show 0 ≤ i; omega) (by show i ≤ 1000; omega)) rfl (by omega) (by omega) (by omega) rfl rfl (Nat.le_of_ble_eq_true rfl) (ret1 ?_)
    rw [show fu s 3 i 3 = i from rfl]
    refine j_bipush hc dX11_look_4 (by decide) ?_
    refine j_icmp_ne (tgt := 22) hc dX11_look_6 (by decide) ⟨by omega, by omega⟩ ⟨by omega, by omega⟩ (fun zc1 => ?_) (fun zc1 => ?_)
    · have zno : ¬ (i < n ∧ b i = 32) := fun z => zc1 (by unfold hrM; rw [if_pos z.1]; exact z.2)
      have zsk : skN b n zm i = i := by cases zm with | zero => rfl | succ m => (simp only [skN]; rw [if_neg zno])
      rw [zsk] at he
      refine j_aload_n hc dX11_look_22 rfl ?_
      refine j_callV (d' := d - 1) hc dX11_look_23 vX11_128 hS.1 (ev_X11_here (by omega) hS (show RdM (fu s 3 i) A b n from hT) (by show 0 ≤ i; omega) (by show i ≤ 1000; omega)) rfl (by omega) (by omega) (by omega) rfl rfl (Nat.le_of_ble_eq_true rfl) (ret1 ?_)
      rw [show fu s 3 i 3 = i from rfl]
      exact j_iret hc he dX11_look_26 rfl (by omega) (by omega) ⟨_, rfl, rfl, hS, hF⟩
    · have zz : hrM b n i = 32 := by omega
      have zin : i < n ∧ b i = 32 := by unfold hrM at zz; split at zz; (· exact ⟨by assumption, zz⟩); omega
      refine j_aload_n hc dX11_look_9 rfl ?_
      refine j_dup hc dX11_look_10 rfl ?_
      refine j_get hc dX11_look_11 fX11_125 hS.1 rfl ?_
      refine j_iconst hc dX11_look_14 ?_
      refine j_iadd hc dX11_look_15 ?_
      refine j_put  hc dX11_look_16 pX11_125 hS.1 rfl mset_3 ?_
      generalize ezh1 : up _ _ _ = zh1
      have zzmod_zh1 := MdS.pf ezh1 hS
      refine j_goto (tgt := 0) hc dX11_look_19 (by decide) ?_
      obtain ⟨zm2, rfl⟩ : ∃ x, zm = x + 1 := ⟨zm - 1, by omega⟩
      have zst : skN b n (zm2 + 1) i = skN b n zm2 (i + 1) := by simp only [skN]; rw [if_pos zin]
      rw [zst] at he
      have zS2 := zzmod_zh1
      rw [show fu s 3 i 3 = i from rfl, fu_fu] at zS2
      exact ih zm2 (by omega) (i + 1) _ (by omega) (by omega) (by omega) he zS2 (by rw [← ezh1]; exact hF.push rfl)
theorem ev_X11_look {k : WC} {d : Nat} {h : AH} {s : Int → Int} {A : MAs} {b : Int → Int} {n : Int} (hd : 2 ≤ d) (hS : MdS h s A) (hT : RdM s A b n) (h3 : 0 ≤ s 3) (h4 : s 3 ≤ 900) : Ev k d mdX11_look h [vR (70, 0)] 0 0 (LkP s A b n h (skS b n (s 3))) := by
  refine Ev.mk (by decide +kernel) [_] rfl (Nat.le_of_ble_eq_true rfl) (fun w hc he => ?_)
  exact lp_X11_look hd hT hc _ (s 3) h rfl h3 h4 he (by rw [fu_self]; exact hS) (Fr.rf _ _)
