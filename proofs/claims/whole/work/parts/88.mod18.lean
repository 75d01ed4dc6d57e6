/-! ===== the reference: the spread of amounts ===== -/
abbrev isTs : Nm → Prop := fun z => isTb z ∨ z = (239, 0) ∨ z = (240, 0)
theorem MoM.mv {h h' : AH} {n : Nm} {o : AO} {D : LaS} {E : LaY} {ru : RU} {cs : Int} (e : up h n o = h') (hn : n.1 < 230 ∨ 236 < n.1) (a : MoM h D E ru cs) : MoM h' D E ru cs := MoM.fr (fun z hz => by rw [← e]; exact up_ne fun y => by rw [y] at hz; have h1 : 230 ≤ n.1 := hz.1; have h2 : n.1 ≤ 236 := hz.2; omega) a
theorem MoX.fs {h h' : AH} {S : BaS} {f g : Int → Int} (F : Fr isTs h h') (h1 : h' (239, 0) = some (oL 41 f)) (h2 : h' (240, 0) = some (oL 41 g)) (a : MoX h S) : MoX h' S := by
  obtain ⟨-, -, ⟨f3, a3, b3⟩, f4, a4⟩ := a
  exact ⟨⟨f, h1⟩, ⟨g, h2⟩, ⟨f3, (F _ (by decide)).trans a3, b3⟩, f4, (F _ (by decide)).trans a4⟩
theorem isTs_mo {z : Nm} (h : isTs z) : isMo z := by
  rcases h with h | h | h
  · exact isTb_mo h
  · rw [h]; exact Or.inr (by decide)
  · rw [h]; exact Or.inr (by decide)
set_option maxRecDepth 100000 in
set_option maxHeartbeats 4000000 in
theorem lp_X11_spread1 {k : WC} {d : Nat} {w : MC} {s : Int → Int} {A : MAs} {l : Int} {D : LaS} {E : LaY} {ru : RU} {cs : Int} {h0 : AH} {kd n q a t : Int} (hd : 210 ≤ d) (hWb : ∀ k : WC, RuC k s A E ru) (hM : MlD A l D E) (hD : LOK D) (hE : YOK E) (d3 : 0 ≤ cs) (d4 : cs ≤ 30) (hl : s 37 = l) (hcs : s 38 = cs) (ha0 : 0 ≤ a) (ha1 : a ≤ 40) (hc : Cx w k d 0 0 mdX11_spread) (kont : ∀ (f g : Int → Int) (h : AH), (∀ i : Int, 0 ≤ i → i ≤ 40 → f i = if i = a then 1 else 0) → MdS h s A → MoM h D E ru cs → h (239, 0) = some (oL 41 f) → h (240, 0) = some (oL 41 g) → Fr isTs h0 h → J w 0 0 35 [some (vR (70, 0)), some (vI kd), some (vI n), some (vI q), some (vI a), some (vI t), some (vI 41), none, none, none, none, none] [] h) : ∀ (zm : Nat) (j : Nat) (f g : Int → Int) (h : AH), 41 - j = zm → j ≤ 41 → (∀ i : Int, 0 ≤ i → i < j → f i = if i = a then 1 else 0) → MdS h s A → MoM h D E ru cs → h (239, 0) = some (oL 41 f) → h (240, 0) = some (oL 41 g) → Fr isTs h0 h → J w 0 0 3 [some (vR (70, 0)), some (vI kd), some (vI n), some (vI q), some (vI a), some (vI t), some (vI j), none, none, none, none, none] [] h := by
  intro zm
  induction zm using Nat.strongRecOn with
  | _ zm ih =>
    intro j f g h hm hj hf hS hm0 z39 z40 hF
    refine j_iload hc dX11_spread_3 rfl ?_
    refine j_bipush hc dX11_spread_5 (by decide) ?_
    refine j_icmp_ge (tgt := 35) hc dX11_spread_7 (by decide) ⟨by omega, by omega⟩ ⟨by omega, by omega⟩ (fun zc1 => ?_) (fun zc1 => ?_)
    · have zj : j = 41 := by omega
      subst zj
      exact kont f g h (fun i i0 i1 => hf i i0 (by omega)) hS hm0 z39 z40 hF
    · refine j_aload_n hc dX11_spread_10 rfl ?_
      refine j_get hc dX11_spread_11 fX11_96 hS.1 rfl ?_
      refine j_iload hc dX11_spread_14 rfl ?_
      refine j_iload hc dX11_spread_16 rfl ?_
      refine j_iload hc dX11_spread_18 rfl ?_
      refine j_icmp_ne (tgt := 27) hc dX11_spread_20 (by decide) ⟨by omega, by omega⟩ ⟨by omega, by omega⟩ (fun zc2 => ?_) (fun zc2 => ?_)
      · refine j_lconst (x := 0) hc dX11_spread_27 (by decide) ?_
        refine j_last hc dX11_spread_28 z39 (by omega) (by omega) ?_
        generalize ezh1 : up _ _ _ = zh1
        have zzmod_zh1 := MdS.mv ezh1 (by simp) hS
        have zzmom_zh1 := MoM.mv ezh1 (by simp) hm0
        have zM39_zh1 := (congrFun ezh1 _).symm.trans (up_same _ _ _)
        have zM40_zh1 := (congrFun ezh1 _).symm.trans ((up_ne (by simp)).trans z40)
        refine j_iinc (L' := [_, _, _, _, _, _, _, _, _, _, _, _]) hc dX11_spread_29 rfl (Nat.le_of_ble_eq_true rfl) rfl ?_
        refine j_goto (tgt := 3) hc dX11_spread_32 (by decide) ?_
        exact ih _ (by omega) (j + 1) _ _ _ rfl (by omega) (fun i i0 i1 => by by_cases e : i = j; (· rw [e, fu_same]; first | rw [if_pos (by omega)] | rw [if_neg (by omega)]); exact (fu_ne e).trans (hf i i0 (by omega))) zzmod_zh1 zzmom_zh1 zM39_zh1 zM40_zh1 ((by rw [← ezh1]; exact Fr.push (hF) (by first | exact Or.inr (Or.inl rfl) | exact Or.inr (Or.inr rfl))))
      · refine j_lconst (x := 1) hc dX11_spread_23 (by decide) ?_
        refine j_goto (tgt := 28) hc dX11_spread_24 (by decide) ?_
        refine j_last hc dX11_spread_28 z39 (by omega) (by omega) ?_
        generalize ezh2 : up _ _ _ = zh2
        have zzmod_zh2 := MdS.mv ezh2 (by simp) hS
        have zzmom_zh2 := MoM.mv ezh2 (by simp) hm0
        have zM39_zh2 := (congrFun ezh2 _).symm.trans (up_same _ _ _)
        have zM40_zh2 := (congrFun ezh2 _).symm.trans ((up_ne (by simp)).trans z40)
        refine j_iinc (L' := [_, _, _, _, _, _, _, _, _, _, _, _]) hc dX11_spread_29 rfl (Nat.le_of_ble_eq_true rfl) rfl ?_
        refine j_goto (tgt := 3) hc dX11_spread_32 (by decide) ?_
        exact ih _ (by omega) (j + 1) _ _ _ rfl (by omega) (fun i i0 i1 => by by_cases e : i = j; (· rw [e, fu_same]; first | rw [if_pos (by omega)] | rw [if_neg (by omega)]); exact (fu_ne e).trans (hf i i0 (by omega))) zzmod_zh2 zzmom_zh2 zM39_zh2 zM40_zh2 ((by rw [← ezh2]; exact Fr.push (hF) (by first | exact Or.inr (Or.inl rfl) | exact Or.inr (Or.inr rfl))))
set_option maxRecDepth 100000 in
set_option maxHeartbeats 4000000 in
theorem lp_X11_spread3 {k : WC} {d : Nat} {w : MC} {s : Int → Int} {A : MAs} {l : Int} {D : LaS} {E : LaY} {ru : RU} {cs : Int} {h0 : AH} {kd n q a t se kk nx : Int} {z10 z11 : Option AV} {f0 : Int → Int} (hd : 210 ≤ d) (hWb : ∀ k : WC, RuC k s A E ru) (hM : MlD A l D E) (hD : LOK D) (hE : YOK E) (d3 : 0 ≤ cs) (d4 : cs ≤ 30) (hl : s 37 = l) (hcs : s 38 = cs)  (hc : Cx w k d 0 0 mdX11_spread) (kont : ∀ (g : Int → Int) (h : AH), (∀ i : Int, 0 ≤ i → i ≤ 40 → g i = 0) → MdS h s A → MoM h D E ru cs → h (239, 0) = some (oL 41 f0) → h (240, 0) = some (oL 41 g) → Fr isTs h0 h → J w 0 0 80 [some (vR (70, 0)), some (vI kd), some (vI n), some (vI q), some (vI a), some (vI t), some (vI se), some (vI kk), some (vI nx), some (vI 41), z10, z11] [] h) : ∀ (zm : Nat) (j : Nat) (f g : Int → Int) (h : AH), 41 - j = zm → j ≤ 41 → f = f0 → (∀ i : Int, 0 ≤ i → i < j → g i = 0) → MdS h s A → MoM h D E ru cs → h (239, 0) = some (oL 41 f) → h (240, 0) = some (oL 41 g) → Fr isTs h0 h → J w 0 0 59 [some (vR (70, 0)), some (vI kd), some (vI n), some (vI q), some (vI a), some (vI t), some (vI se), some (vI kk), some (vI nx), some (vI j), z10, z11] [] h := by
  intro zm
  induction zm using Nat.strongRecOn with
  | _ zm ih =>
    intro j f g h hm hj hf0 hg hS hm0 z39 z40 hF
    refine j_iload hc dX11_spread_59 rfl ?_
    refine j_bipush hc dX11_spread_61 (by decide) ?_
    refine j_icmp_ge (tgt := 80) hc dX11_spread_63 (by decide) ⟨by omega, by omega⟩ ⟨by omega, by omega⟩ (fun zc1 => ?_) (fun zc1 => ?_)
    · have zj : j = 41 := by omega
      subst zj
      subst hf0
      exact kont g h (fun i i0 i1 => hg i i0 (by omega)) hS hm0 z39 z40 hF
    · refine j_aload_n hc dX11_spread_66 rfl ?_
      refine j_get hc dX11_spread_67 fX11_99 hS.1 rfl ?_
      refine j_iload hc dX11_spread_70 rfl ?_
      refine j_lconst (x := 0) hc dX11_spread_72 (by decide) ?_
      refine j_last hc dX11_spread_73 z40 (by omega) (by omega) ?_
      generalize ezh1 : up _ _ _ = zh1
      have zzmod_zh1 := MdS.mv ezh1 (by simp) hS
      have zzmom_zh1 := MoM.mv ezh1 (by simp) hm0
      have zM39_zh1 := (congrFun ezh1 _).symm.trans ((up_ne (by simp)).trans z39)
      have zM40_zh1 := (congrFun ezh1 _).symm.trans (up_same _ _ _)
      refine j_iinc (L' := [_, _, _, _, _, _, _, _, _, _, _, _]) hc dX11_spread_74 rfl (Nat.le_of_ble_eq_true rfl) rfl ?_
      refine j_goto (tgt := 59) hc dX11_spread_77 (by decide) ?_
      exact ih _ (by omega) (j + 1) _ _ _ rfl (by omega) hf0 (fun i i0 i1 => by by_cases e : i = j; (· rw [e, fu_same]); exact (fu_ne e).trans (hg i i0 (by omega))) zzmod_zh1 zzmom_zh1 zM39_zh1 zM40_zh1 ((by rw [← ezh1]; exact Fr.push (hF) (by first | exact Or.inr (Or.inl rfl) | exact Or.inr (Or.inr rfl))))
set_option maxRecDepth 100000 in
set_option maxHeartbeats 4000000 in
theorem lp_X11_spread6 {k : WC} {d : Nat} {w : MC} {s : Int → Int} {A : MAs} {l : Int} {D : LaS} {E : LaY} {ru : RU} {cs : Int} {h0 : AH} {kd n q a t se kk nx : Int} {z10 z11 : Option AV} {g0 : Int → Int} (hd : 210 ≤ d) (hWb : ∀ k : WC, RuC k s A E ru) (hM : MlD A l D E) (hD : LOK D) (hE : YOK E) (d3 : 0 ≤ cs) (d4 : cs ≤ 30) (hl : s 37 = l) (hcs : s 38 = cs)  (hc : Cx w k d 0 0 mdX11_spread) (kont : ∀ (f : Int → Int) (h : AH), (∀ i : Int, 0 ≤ i → i ≤ 40 → f i = g0 i) → MdS h s A → MoM h D E ru cs → h (239, 0) = some (oL 41 f) → h (240, 0) = some (oL 41 g0) → Fr isTs h0 h → J w 0 0 230 [some (vR (70, 0)), some (vI kd), some (vI n), some (vI q), some (vI a), some (vI t), some (vI se), some (vI kk), some (vI nx), some (vI 41), z10, z11] [] h) : ∀ (zm : Nat) (j : Nat) (f g : Int → Int) (h : AH), 41 - j = zm → j ≤ 41 → g = g0 → (∀ i : Int, 0 ≤ i → i < j → f i = g0 i) → MdS h s A → MoM h D E ru cs → h (239, 0) = some (oL 41 f) → h (240, 0) = some (oL 41 g) → Fr isTs h0 h → J w 0 0 203 [some (vR (70, 0)), some (vI kd), some (vI n), some (vI q), some (vI a), some (vI t), some (vI se), some (vI kk), some (vI nx), some (vI j), z10, z11] [] h := by
  intro zm
  induction zm using Nat.strongRecOn with
  | _ zm ih =>
    intro j f g h hm hj hg0 hf hS hm0 z39 z40 hF
    refine j_iload hc dX11_spread_203 rfl ?_
    refine j_bipush hc dX11_spread_205 (by decide) ?_
    refine j_icmp_ge (tgt := 230) hc dX11_spread_207 (by decide) ⟨by omega, by omega⟩ ⟨by omega, by omega⟩ (fun zc1 => ?_) (fun zc1 => ?_)
    · have zj : j = 41 := by omega
      subst zj
      subst hg0
      exact kont f h (fun i i0 i1 => hf i i0 (by omega)) hS hm0 z39 z40 hF
    · refine j_aload_n hc dX11_spread_210 rfl ?_
      refine j_get hc dX11_spread_211 fX11_96 hS.1 rfl ?_
      refine j_iload hc dX11_spread_214 rfl ?_
      refine j_aload_n hc dX11_spread_216 rfl ?_
      refine j_get hc dX11_spread_217 fX11_99 hS.1 rfl ?_
      refine j_iload hc dX11_spread_220 rfl ?_
      refine j_lald hc dX11_spread_222 z40 (by omega) (by omega) ?_
      refine j_last hc dX11_spread_223 z39 (by omega) (by omega) ?_
      generalize ezh1 : up _ _ _ = zh1
      have zzmod_zh1 := MdS.mv ezh1 (by simp) hS
      have zzmom_zh1 := MoM.mv ezh1 (by simp) hm0
      have zM39_zh1 := (congrFun ezh1 _).symm.trans (up_same _ _ _)
      have zM40_zh1 := (congrFun ezh1 _).symm.trans ((up_ne (by simp)).trans z40)
      refine j_iinc (L' := [_, _, _, _, _, _, _, _, _, _, _, _]) hc dX11_spread_224 rfl (Nat.le_of_ble_eq_true rfl) rfl ?_
      refine j_goto (tgt := 203) hc dX11_spread_227 (by decide) ?_
      exact ih _ (by omega) (j + 1) _ _ _ rfl (by omega) hg0 (fun i i0 i1 => by by_cases e : i = j; (· rw [e, fu_same, hg0]); exact (fu_ne e).trans (hf i i0 (by omega))) zzmod_zh1 zzmom_zh1 zM39_zh1 zM40_zh1 ((by rw [← ezh1]; exact Fr.push (hF) (by first | exact Or.inr (Or.inl rfl) | exact Or.inr (Or.inr rfl))))
set_option maxRecDepth 100000 in
set_option maxHeartbeats 4000000 in
theorem lp_X11_spread5 {k : WC} {d : Nat} {w : MC} {s : Int → Int} {A : MAs} {l : Int} {D : LaS} {E : LaY} {ru : RU} {cs : Int} {h0 : AH} {kd n q a t se kk x le fa : Int} {f0 g0 : Int → Int} (hd : 210 ≤ d) (hWb : ∀ k : WC, RuC k s A E ru) (hM : MlD A l D E) (hD : LOK D) (hE : YOK E) (d3 : 0 ≤ cs) (d4 : cs ≤ 30) (hl : s 37 = l) (hcs : s 38 = cs) (hse0 : 0 ≤ se) (hx0 : 0 ≤ x) (hx1 : x ≤ 40) (hle0 : 0 ≤ le) (hle1 : le ≤ 20) (hfa : f0 x = fa) (hfa0 : 0 < fa) (hfa1 : fa ≤ 14183735261958144) (hc : Cx w k d 0 0 mdX11_spread) (kont : ∀ (z11 : Option AV) (h : AH), MdS h s A → MoM h D E ru cs → h (239, 0) = some (oL 41 f0) → h (240, 0) = some (oL 41 (sp2 D (nxS D se) le fa g0 (lHv D (nxS D se)).toNat)) → Fr isTs h0 h → J w 0 0 194 [some (vR (70, 0)), some (vI kd), some (vI n), some (vI q), some (vI a), some (vI t), some (vI se), some (vI kk), some (vI (nxS D se)), some (vI x), some (vI le), z11] [] h) : ∀ (zm : Nat) (j : Nat) (f g : Int → Int) (h : AH), 4 - j = zm → (j : Int) ≤ lHv D (nxS D se) → f = f0 → g = sp2 D (nxS D se) le fa g0 j → MdS h s A → MoM h D E ru cs → h (239, 0) = some (oL 41 f) → h (240, 0) = some (oL 41 g) → Fr isTs h0 h → J w 0 0 129 [some (vR (70, 0)), some (vI kd), some (vI n), some (vI q), some (vI a), some (vI t), some (vI se), some (vI kk), some (vI (nxS D se)), some (vI x), some (vI le), some (vI j)] [] h := by
  intro zm
  induction zm using Nat.strongRecOn with
  | _ zm ih =>
    intro j f g h hm hj hf0 hg hS hm0 z39 z40 hF
    have zn := nxS_b hD hse0
    have d13 := hD.2.2.2.2.2.2.2.2.2.2.2.2
    obtain ⟨zh1, zh2, zh3, zh4, zh5, zh6⟩ := d13 (nxS D se) zn.1 zn.2
    have hfx : f x = fa := by rw [hf0]; exact hfa
    refine j_iload hc dX11_spread_129 rfl ?_
    refine j_aload_n hc dX11_spread_131 rfl ?_
    refine j_iload hc dX11_spread_132 rfl ?_
    refine j_callV (d' := d - 1) hc dX11_spread_134 vX11_310 hS.1 (ev_X11_harvests (by omega) hS hM hD hE hl (by omega) (by omega)) rfl (by omega) (by omega) (by omega) rfl rfl (Nat.le_of_ble_eq_true rfl) (ret1 ?_)
    refine j_icmp_ge (tgt := 194) hc dX11_spread_137 (by decide) ⟨by omega, by omega⟩ ⟨by omega, by omega⟩ (fun zc1 => ?_) (fun zc1 => ?_)
    · have zj : j = (lHv D (nxS D se)).toNat := by omega
      subst zj
      subst hf0
      subst hg
      exact kont _ h hS hm0 z39 z40 hF
    · have zh := zh6 j (by omega) (by omega)
      rw [show 4 * nxS D se + (j : Int) = nxS D se * 4 + j by omega] at zh
      refine j_aload_n hc dX11_spread_140 rfl ?_
      refine j_get hc dX11_spread_141 fX11_96 hS.1 rfl ?_
      refine j_iload hc dX11_spread_144 rfl ?_
      refine j_lald hc dX11_spread_146 z39 (by omega) (by omega) ?_
      rw [hfx]
      refine j_lconst (x := 0) hc dX11_spread_147 (by decide) ?_
      refine j_lcmp hc dX11_spread_148 ⟨by omega, by omega⟩ ⟨by omega, by omega⟩ ?_
      refine j_if_le (b := 0) (tgt := 194) hc dX11_spread_149 (by decide) (by unfold lc; split <;> (try split) <;> exact ⟨by omega, by omega⟩) (fun zc2 => ?_) (fun zc2 => ?_)
      · exact absurd zc2 (by unfold lc; split <;> (try split) <;> omega)
      · refine j_aload_n hc dX11_spread_152 rfl ?_
        refine j_get hc dX11_spread_153 fX11_99 hS.1 rfl ?_
        refine j_iload hc dX11_spread_156 rfl ?_
        refine j_aload_n hc dX11_spread_158 rfl ?_
        refine j_iload hc dX11_spread_159 rfl ?_
        refine j_iload hc dX11_spread_161 rfl ?_
        refine j_callV (d' := d - 1) hc dX11_spread_163 vX11_313 hS.1 (ev_X11_sacksOf (by omega) hS hM hD hE hl (by omega) (by omega) (by omega) (by omega)) rfl (by omega) (by omega) (by omega) rfl rfl (Nat.le_of_ble_eq_true rfl) (ret1 ?_)
        refine j_iadd hc dX11_spread_166 ?_
        refine j_dup2 hc dX11_spread_167 rfl rfl ?_
        refine j_lald hc dX11_spread_168 z40 (by omega) (by omega) ?_
        refine j_aload_n hc dX11_spread_169 rfl ?_
        refine j_get hc dX11_spread_170 fX11_96 hS.1 rfl ?_
        refine j_iload hc dX11_spread_173 rfl ?_
        refine j_lald hc dX11_spread_175 z39 (by omega) (by omega) ?_
        rw [hfx]
        refine j_aload_n hc dX11_spread_176 rfl ?_
        refine j_iload hc dX11_spread_177 rfl ?_
        refine j_iload hc dX11_spread_179 rfl ?_
        refine j_callV (d' := d - 1) hc dX11_spread_181 vX11_316 hS.1 (ev_X11_weightIn (by omega) hS hM hD hE hl (by omega) (by omega) (by omega) (by omega)) rfl (by omega) (by omega) (by omega) rfl rfl (Nat.le_of_ble_eq_true rfl) (ret1 ?_)
        refine j_i2l hc dX11_spread_184 ⟨by omega, by omega⟩ ?_
        refine j_lmul hc dX11_spread_185 ?_
        refine j_ladd hc dX11_spread_186 ?_
        refine j_last hc dX11_spread_187 z40 (by omega) (by omega) ?_
        generalize ezh1 : up _ _ _ = zh1
        have zzmod_zh1 := MdS.mv ezh1 (by simp) hS
        have zzmom_zh1 := MoM.mv ezh1 (by simp) hm0
        have zM39_zh1 := (congrFun ezh1 _).symm.trans ((up_ne (by simp)).trans z39)
        have zM40_zh1 := (congrFun ezh1 _).symm.trans (up_same _ _ _)
        refine j_iinc (L' := [_, _, _, _, _, _, _, _, _, _, _, _]) hc dX11_spread_188 rfl (Nat.le_of_ble_eq_true rfl) rfl ?_
        refine j_goto (tgt := 129) hc dX11_spread_191 (by decide) ?_
        exact ih _ (by omega) (j + 1) _ _ _ rfl (by omega) hf0 (by rw [hg]; rfl) zzmod_zh1 zzmom_zh1 zM39_zh1 zM40_zh1 ((by rw [← ezh1]; exact Fr.push (hF) (by first | exact Or.inr (Or.inl rfl) | exact Or.inr (Or.inr rfl))))
