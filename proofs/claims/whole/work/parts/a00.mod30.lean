/-! ===== the reference adds eaters and harvests ===== -/
theorem fuA_fuA (A : MAs) (i : Int) (g g' : Int → Int) : fuA (fuA A i g) i g' = fuA A i g' := by
  funext j
  unfold fuA
  split <;> rfl
theorem fuA_self (A : MAs) (i : Int) : fuA A i (A i) = A := by
  funext j
  unfold fuA
  split
  · rename_i h; rw [h]
  · rfl
/-- an eater more, who pays p, at his place -/
theorem PaQ.ins {cn f g : Int → Int} {p e k : Int} (hcn : ∀ p : Int, 0 ≤ p → p ≤ 99 → 0 ≤ cn p) (hp0 : 1 ≤ p) (hp1 : p ≤ 99) (hk : k = rgS cn p) (hf : ∀ j : Int, 0 ≤ j → j < e → PaQ cn f j) (h1 : ∀ j : Int, 0 ≤ j → j < k → g j = f j) (h2 : g k = p) (h3 : ∀ j : Int, k < j → j ≤ e → g j = f (j - 1)) (hke : k ≤ e) (hk0 : 0 ≤ k) : ∀ j : Int, 0 ≤ j → j < e + 1 → PaQ (fu cn p (cn p + 1)) g j := by
  intro j j0 j1
  rcases (by omega : j < k ∨ j = k ∨ k < j) with q | q | q
  · obtain ⟨a1, a2, a3⟩ := hf j j0 (by omega)
    unfold PaQ
    rw [h1 j j0 q]
    refine ⟨a1, a2, fun x x0 x1 => ?_⟩
    rw [a3 x x0 x1, rgS_fu hp0 hp1 (by omega) (by omega)]
    split
    · have := rgS_le hcn (p := x) (q := p) (by omega) (by omega) (by omega)
      omega
    · omega
  · subst q
    unfold PaQ
    rw [h2]
    refine ⟨hp0, hp1, fun x x0 x1 => ?_⟩
    rw [rgS_fu hp0 hp1 (by omega) (by omega)]
    split
    · have := rgS_le hcn (p := x) (q := p) (by omega) (by omega) (by omega)
      omega
    · have := rgS_le hcn (p := p) (q := x) (by omega) (by omega) (by omega)
      omega
  · obtain ⟨a1, a2, a3⟩ := hf (j - 1) (by omega) (by omega)
    unfold PaQ
    rw [h3 j q (by omega)]
    refine ⟨a1, a2, fun x x0 x1 => ?_⟩
    rw [a3 x x0 x1, rgS_fu hp0 hp1 (by omega) (by omega)]
    split
    · omega
    · have := rgS_le hcn (p := p) (q := x) (by omega) (by omega) (by omega)
      omega
def EaP (s : Int → Int) (A : MAs) (l e p : Int) (cn : Int → Int) (h : AH) : Option AV → AH → Prop := pn fun h' => ∃ g : Int → Int, MdS h' s (fuA (fuA A 7 g) 8 (fu (A 8) l (e + 1))) ∧ (∀ j : Int, 0 ≤ j → j < e + 1 → PaQ (fu cn p (cn p + 1)) (fun j => g (180 * l + j)) j) ∧ (∀ z : Int, z < 180 * l ∨ 180 * l + 180 ≤ z → g z = A 7 z) ∧ Fr (fun z => z = (207, 0) ∨ z = (208, 0)) h h'
set_option maxRecDepth 100000 in
set_option maxHeartbeats 4000000 in
theorem lp_X11_addEater {k : WC} {d : Nat} {w : MC} {h0 : AH} {s : Int → Int} {A : MAs} {l p e : Int} {cn : Int → Int} (hl0 : 0 ≤ l) (hl6 : l ≤ 6) (hp0 : 1 ≤ p) (hp1 : p ≤ 99) (he8 : A 8 l = e) (he0 : 0 ≤ e) (he1 : e ≤ 179) (hcn : ∀ p : Int, 0 ≤ p → p ≤ 99 → 0 ≤ cn p) (hpq : ∀ j : Int, 0 ≤ j → j < e → PaQ cn (fun j => A 7 (180 * l + j)) j) (hd : 1 ≤ d) (hc : Cx w k d 0 0 mdX11_addEater) (he : Ends w 0 0 (EaP s A l e p cn h0)) : ∀ (zm : Nat) (k : Int) (g : Int → Int) (h : AH), k.toNat = zm → 0 ≤ k → k ≤ e → rgS cn p ≤ k → (∀ j : Int, 0 ≤ j → j < k → g (180 * l + j) = A 7 (180 * l + j)) → (∀ j : Int, k < j → j ≤ e → g (180 * l + j) = A 7 (180 * l + j - 1)) → (∀ z : Int, z < 180 * l ∨ 180 * l + 180 ≤ z → g z = A 7 z) → MdS h s (fuA A 7 g) → Fr (fun z => z = (207, 0) ∨ z = (208, 0)) h0 h → J w 0 0 7 [some (vR (70, 0)), some (vI l), some (vI p), some (vI k)] [] h := by
  intro zm
  induction zm using Nat.strongRecOn with
  | _ zm ih =>
    intro k g h hm hk0 hk1 hrk h1 h2 hz0 hS hF
    have zr0 : 0 ≤ rgS cn p := by have := rgS_le hcn (p := p) (q := 100) (by omega) (by omega) (by omega); rw [rgS_top] at this; exact this
    refine j_iload_n hc dX11_addEater_7 rfl ?_
    refine j_if_le (b := 0) (tgt := 61) hc dX11_addEater_8 (by decide) ⟨by omega, by omega⟩ (fun zc1 => ?_) (fun zc1 => ?_)
    · have zk : k = rgS cn p := by omega
      refine j_aload_n hc dX11_addEater_61 rfl ?_
      refine j_get hc dX11_addEater_62 fX11_16 hS.1 rfl ?_
      refine j_sipush hc dX11_addEater_65 (by decide) ?_
      refine j_iload_n hc dX11_addEater_68 rfl ?_
      refine j_imul hc dX11_addEater_69 ?_
      refine j_iload_n hc dX11_addEater_70 rfl ?_
      refine j_iadd hc dX11_addEater_71 ?_
      refine j_iload_n hc dX11_addEater_72 rfl ?_
      refine j_iast hc dX11_addEater_73 hS.2.2.2.1 (by omega) (by omega) ?_
      generalize ezh1 : up _ _ _ = zh1
      have zzmod_zh1 := MdS.pa_7 ezh1 hS
      refine j_aload_n hc dX11_addEater_74 rfl ?_
      refine j_get hc dX11_addEater_75 fX11_19 zzmod_zh1.1 rfl ?_
      refine j_iload_n hc dX11_addEater_78 rfl ?_
      refine j_dup2 hc dX11_addEater_79 rfl rfl ?_
      refine j_iald hc dX11_addEater_80 zzmod_zh1.2.2.2.2.1 (by omega) (by omega) ?_
      rw [show fuA (fuA A 7 g) 7 _ 8 l = A 8 l from rfl, he8]
      refine j_iconst hc dX11_addEater_81 ?_
      refine j_iadd hc dX11_addEater_82 ?_
      refine j_iast hc dX11_addEater_83 zzmod_zh1.2.2.2.2.1 (by omega) (by omega) ?_
      generalize ezh2 : up _ _ _ = zh2
      have zzmod_zh2 := MdS.pa_8 ezh2 zzmod_zh1
      exact j_vret hc he dX11_addEater_84 rfl (by omega) (by omega) ⟨rfl, _, by have zS9 := zzmod_zh2; rw [fuA_fuA] at zS9; exact zS9, PaQ.ins (k := k) hcn hp0 hp1 zk hpq (fun j j0 j1 => (fu_ne (by omega)).trans (h1 j j0 j1)) (fu_same _ _ _) (fun j j0 j1 => (fu_ne (by omega)).trans (by rw [show 180 * l + (j - 1) = 180 * l + j - 1 by omega]; exact h2 j j0 j1)) hk1 hk0, fun z hz => (fu_ne (by omega)).trans (hz0 z hz), (by rw [← ezh2]; exact Fr.push ((by rw [← ezh1]; exact Fr.push (hF) (by first | exact Or.inl rfl | exact Or.inr rfl))) (by first | exact Or.inl rfl | exact Or.inr rfl))⟩
    · have zpk := hpq (k - 1) (by omega) (by omega)
      have zg : g (180 * l + k - 1) = A 7 (180 * l + (k - 1)) := by rw [show 180 * l + k - 1 = 180 * l + (k - 1) by omega]; exact h1 (k - 1) (by omega) (by omega)
      unfold PaQ at zpk
      dsimp only at zpk
      refine j_aload_n hc dX11_addEater_11 rfl ?_
      refine j_get hc dX11_addEater_12 fX11_16 hS.1 rfl ?_
      refine j_sipush hc dX11_addEater_15 (by decide) ?_
      refine j_iload_n hc dX11_addEater_18 rfl ?_
      refine j_imul hc dX11_addEater_19 ?_
      refine j_iload_n hc dX11_addEater_20 rfl ?_
      refine j_iadd hc dX11_addEater_21 ?_
      refine j_iconst hc dX11_addEater_22 ?_
      refine j_isub hc dX11_addEater_23 ?_
      refine j_iald hc dX11_addEater_24 hS.2.2.2.1 (by omega) (by omega) ?_
      rw [show fuA A 7 g 7 = g from rfl, zg]
      refine j_iload_n hc dX11_addEater_25 rfl ?_
      refine j_icmp_ge (tgt := 61) hc dX11_addEater_26 (by decide) ⟨by omega, by omega⟩ ⟨by omega, by omega⟩ (fun zc2 => ?_) (fun zc2 => ?_)
      · have zq3 := (zpk.2.2 p hp0 hp1).mp (by omega)
        have zk : k = rgS cn p := by omega
        refine j_aload_n hc dX11_addEater_61 rfl ?_
        refine j_get hc dX11_addEater_62 fX11_16 hS.1 rfl ?_
        refine j_sipush hc dX11_addEater_65 (by decide) ?_
        refine j_iload_n hc dX11_addEater_68 rfl ?_
        refine j_imul hc dX11_addEater_69 ?_
        refine j_iload_n hc dX11_addEater_70 rfl ?_
        refine j_iadd hc dX11_addEater_71 ?_
        refine j_iload_n hc dX11_addEater_72 rfl ?_
        refine j_iast hc dX11_addEater_73 hS.2.2.2.1 (by omega) (by omega) ?_
        generalize ezh3 : up _ _ _ = zh3
        have zzmod_zh3 := MdS.pa_7 ezh3 hS
        refine j_aload_n hc dX11_addEater_74 rfl ?_
        refine j_get hc dX11_addEater_75 fX11_19 zzmod_zh3.1 rfl ?_
        refine j_iload_n hc dX11_addEater_78 rfl ?_
        refine j_dup2 hc dX11_addEater_79 rfl rfl ?_
        refine j_iald hc dX11_addEater_80 zzmod_zh3.2.2.2.2.1 (by omega) (by omega) ?_
        rw [show fuA (fuA A 7 g) 7 _ 8 l = A 8 l from rfl, he8]
        refine j_iconst hc dX11_addEater_81 ?_
        refine j_iadd hc dX11_addEater_82 ?_
        refine j_iast hc dX11_addEater_83 zzmod_zh3.2.2.2.2.1 (by omega) (by omega) ?_
        generalize ezh4 : up _ _ _ = zh4
        have zzmod_zh4 := MdS.pa_8 ezh4 zzmod_zh3
        exact j_vret hc he dX11_addEater_84 rfl (by omega) (by omega) ⟨rfl, _, by have zS9 := zzmod_zh4; rw [fuA_fuA] at zS9; exact zS9, PaQ.ins (k := k) hcn hp0 hp1 zk hpq (fun j j0 j1 => (fu_ne (by omega)).trans (h1 j j0 j1)) (fu_same _ _ _) (fun j j0 j1 => (fu_ne (by omega)).trans (by rw [show 180 * l + (j - 1) = 180 * l + j - 1 by omega]; exact h2 j j0 j1)) hk1 hk0, fun z hz => (fu_ne (by omega)).trans (hz0 z hz), (by rw [← ezh4]; exact Fr.push ((by rw [← ezh3]; exact Fr.push (hF) (by first | exact Or.inl rfl | exact Or.inr rfl))) (by first | exact Or.inl rfl | exact Or.inr rfl))⟩
      · have zq3 : ¬ (k - 1 < rgS cn p) := fun z => by have := (zpk.2.2 p hp0 hp1).mpr z; omega
        refine j_aload_n hc dX11_addEater_29 rfl ?_
        refine j_get hc dX11_addEater_30 fX11_16 hS.1 rfl ?_
        refine j_sipush hc dX11_addEater_33 (by decide) ?_
        refine j_iload_n hc dX11_addEater_36 rfl ?_
        refine j_imul hc dX11_addEater_37 ?_
        refine j_iload_n hc dX11_addEater_38 rfl ?_
        refine j_iadd hc dX11_addEater_39 ?_
        refine j_aload_n hc dX11_addEater_40 rfl ?_
        refine j_get hc dX11_addEater_41 fX11_16 hS.1 rfl ?_
        refine j_sipush hc dX11_addEater_44 (by decide) ?_
        refine j_iload_n hc dX11_addEater_47 rfl ?_
        refine j_imul hc dX11_addEater_48 ?_
        refine j_iload_n hc dX11_addEater_49 rfl ?_
        refine j_iadd hc dX11_addEater_50 ?_
        refine j_iconst hc dX11_addEater_51 ?_
        refine j_isub hc dX11_addEater_52 ?_
        refine j_iald hc dX11_addEater_53 hS.2.2.2.1 (by omega) (by omega) ?_
        rw [show fuA A 7 g 7 = g from rfl, zg]
        refine j_iast hc dX11_addEater_54 hS.2.2.2.1 (by omega) (by omega) ?_
        generalize ezh5 : up _ _ _ = zh5
        have zzmod_zh5 := MdS.pa_7 ezh5 hS
        refine j_iinc (L' := [_, _, _, _]) hc dX11_addEater_55 rfl (Nat.le_of_ble_eq_true rfl) rfl ?_
        refine j_goto (tgt := 7) hc dX11_addEater_58 (by decide) ?_
        have zS2 := zzmod_zh5
        rw [fuA_fuA] at zS2
        exact ih (k - 1).toNat (by omega) (k - 1) _ _ rfl (by omega) (by omega) (by omega) (fun j j0 j1 => (fu_ne (by omega)).trans (h1 j j0 (by omega))) (fun j j0 j1 => by by_cases e : j = k; (· rw [e, show (180 : Int) * l + k - 1 = 180 * l + (k - 1) by omega]; exact fu_same _ _ _); exact (fu_ne (by omega)).trans (h2 j (by omega) j1)) (fun z hz => (fu_ne (by omega)).trans (hz0 z hz)) zS2 (by rw [← ezh5]; exact hF.push (Or.inl rfl))
set_option maxRecDepth 100000 in
set_option maxHeartbeats 4000000 in
theorem ev_X11_addEater {k : WC} {d : Nat} {h : AH} {s : Int → Int} {A : MAs} {l p e : Int} {cn : Int → Int} (hl0 : 0 ≤ l) (hl6 : l ≤ 6) (hp0 : 1 ≤ p) (hp1 : p ≤ 99) (he8 : A 8 l = e) (he0 : 0 ≤ e) (he1 : e ≤ 179) (hcn : ∀ p : Int, 0 ≤ p → p ≤ 99 → 0 ≤ cn p) (hpq : ∀ j : Int, 0 ≤ j → j < e → PaQ cn (fun j => A 7 (180 * l + j)) j) (hrg : e = rgS cn 1) (hd : 1 ≤ d) (hS : MdS h s A) : Ev k d mdX11_addEater h [vR (70, 0), vI l, vI p] 0 0 (EaP s A l e p cn h) := by
  refine Ev.mk (by decide +kernel) [_, _, _, _] rfl (Nat.le_of_ble_eq_true rfl) (fun w hc he => ?_)
  refine j_aload_n hc dX11_addEater_0 rfl ?_
  refine j_get hc dX11_addEater_1 fX11_19 hS.1 rfl ?_
  refine j_iload_n hc dX11_addEater_4 rfl ?_
  refine j_iald hc dX11_addEater_5 hS.2.2.2.2.1 (by omega) (by omega) ?_
  rw [he8]
  refine j_istore_n (L' := [_, _, _, _]) hc dX11_addEater_6 (Nat.le_of_ble_eq_true rfl) rfl ?_
  exact lp_X11_addEater hl0 hl6 hp0 hp1 he8 he0 he1 hcn hpq hd hc he _ e (A 7) h rfl he0 (Int.le_refl _) (by rw [hrg]; exact rgS_le hcn (by omega) hp0 (by omega)) (fun j _ _ => rfl) (fun j _ _ => by omega) (fun z _ => rfl) (by rw [fuA_self]; exact hS) (Fr.rf _ _)
set_option maxRecDepth 100000 in
set_option maxHeartbeats 4000000 in
theorem ev_X11_addHarvest {k : WC} {d : Nat} {h : AH} {s : Int → Int} {A : MAs} {l q sk wt mk : Int} (hd : 1 ≤ d) (hS : MdS h s A) (hl0 : 0 ≤ l) (hl6 : l ≤ 6) (hq0 : 0 ≤ q) (hq1 : q ≤ 3) (hmk : A 12 (4 * l + q) = mk) (hmk0 : 0 ≤ mk) (hmk1 : mk ≤ 3) : Ev k d mdX11_addHarvest h [vR (70, 0), vI l, vI q, vI sk, vI wt] 0 0 (pn fun h' => MdS h' s (fuA (fuA (fuA A 10 (fu (A 10) (4 * (4 * l + q) + mk) sk)) 11 (fu (A 11) (4 * (4 * l + q) + mk) wt)) 12 (fu (A 12) (4 * l + q) (mk + 1))) ∧ Fr (fun z => z = (210, 0) ∨ z = (211, 0) ∨ z = (212, 0)) h h') := by
  refine Ev.mk (by decide +kernel) [_, _, _, _, _, _] rfl (Nat.le_of_ble_eq_true rfl) (fun w hc he => ?_)
  refine j_iconst hc dX11_addHarvest_0 ?_
  refine j_iload_n hc dX11_addHarvest_1 rfl ?_
  refine j_imul hc dX11_addHarvest_2 ?_
  refine j_iload_n hc dX11_addHarvest_3 rfl ?_
  refine j_iadd hc dX11_addHarvest_4 ?_
  refine j_istore (L' := [_, _, _, _, _, _]) hc dX11_addHarvest_5 (Nat.le_of_ble_eq_true rfl) rfl ?_
  refine j_aload_n hc dX11_addHarvest_7 rfl ?_
  refine j_get hc dX11_addHarvest_8 fX11_25 hS.1 rfl ?_
  refine j_iconst hc dX11_addHarvest_11 ?_
  refine j_iload hc dX11_addHarvest_12 rfl ?_
  refine j_imul hc dX11_addHarvest_14 ?_
  refine j_aload_n hc dX11_addHarvest_15 rfl ?_
  refine j_get hc dX11_addHarvest_16 fX11_31 hS.1 rfl ?_
  refine j_iload hc dX11_addHarvest_19 rfl ?_
  refine j_iald hc dX11_addHarvest_21 hS.2.2.2.2.2.2.2.2.1 (by omega) (by omega) ?_
  rw [hmk]
  refine j_iadd hc dX11_addHarvest_22 ?_
  refine j_iload_n hc dX11_addHarvest_23 rfl ?_
  refine j_iast hc dX11_addHarvest_24 hS.2.2.2.2.2.2.1 (by omega) (by omega) ?_
  generalize ezh1 : up _ _ _ = zh1
  have zzmod_zh1 := MdS.pa_10 ezh1 hS
  refine j_aload_n hc dX11_addHarvest_25 rfl ?_
  refine j_get hc dX11_addHarvest_26 fX11_28 zzmod_zh1.1 rfl ?_
  refine j_iconst hc dX11_addHarvest_29 ?_
  refine j_iload hc dX11_addHarvest_30 rfl ?_
  refine j_imul hc dX11_addHarvest_32 ?_
  refine j_aload_n hc dX11_addHarvest_33 rfl ?_
  refine j_get hc dX11_addHarvest_34 fX11_31 zzmod_zh1.1 rfl ?_
  refine j_iload hc dX11_addHarvest_37 rfl ?_
  refine j_iald hc dX11_addHarvest_39 zzmod_zh1.2.2.2.2.2.2.2.2.1 (by omega) (by omega) ?_
  rw [show fuA A 10 _ 12 = A 12 from rfl, hmk]
  refine j_iadd hc dX11_addHarvest_40 ?_
  refine j_iload hc dX11_addHarvest_41 rfl ?_
  refine j_iast hc dX11_addHarvest_43 zzmod_zh1.2.2.2.2.2.2.2.1 (by omega) (by omega) ?_
  generalize ezh2 : up _ _ _ = zh2
  have zzmod_zh2 := MdS.pa_11 ezh2 zzmod_zh1
  refine j_aload_n hc dX11_addHarvest_44 rfl ?_
  refine j_get hc dX11_addHarvest_45 fX11_31 zzmod_zh2.1 rfl ?_
  refine j_iload hc dX11_addHarvest_48 rfl ?_
  refine j_dup2 hc dX11_addHarvest_50 rfl rfl ?_
  refine j_iald hc dX11_addHarvest_51 zzmod_zh2.2.2.2.2.2.2.2.2.1 (by omega) (by omega) ?_
  rw [show fuA (fuA A 10 _) 11 _ 12 = A 12 from rfl, hmk]
  refine j_iconst hc dX11_addHarvest_52 ?_
  refine j_iadd hc dX11_addHarvest_53 ?_
  refine j_iast hc dX11_addHarvest_54 zzmod_zh2.2.2.2.2.2.2.2.2.1 (by omega) (by omega) ?_
  generalize ezh3 : up _ _ _ = zh3
  have zzmod_zh3 := MdS.pa_12 ezh3 zzmod_zh2
  exact j_vret hc he dX11_addHarvest_55 rfl (by omega) (by omega) ⟨rfl, zzmod_zh3, (by rw [← ezh3]; exact Fr.push ((by rw [← ezh2]; exact Fr.push ((by rw [← ezh1]; exact Fr.push (Fr.rf _ _) (by first | exact Or.inl rfl | exact Or.inr (Or.inl rfl) | exact Or.inr (Or.inr rfl)))) (by first | exact Or.inl rfl | exact Or.inr (Or.inl rfl) | exact Or.inr (Or.inr rfl)))) (by first | exact Or.inl rfl | exact Or.inr (Or.inl rfl) | exact Or.inr (Or.inr rfl)))⟩
