/-! ===== the reference: spread, after ===== -/
theorem kqP {D : LaS} {E : LaY} (hD : LOK D) (hE : YOK E) {ru : RU} {cs kd n : Int} (hn : 1 ≤ n) : kqOK D (fun s a => kpS D E ru cs kd n s a) := fun s a s0 s1 a0 a1 => by
  have h1 := kpS_b hD hE (ru := ru) (cs := cs) (sr := kd) (n := n) (s := s) a0
  exact ⟨h1.1, h1.2, kpS_le hD hE hn a0⟩
set_option maxRecDepth 100000 in
set_option maxHeartbeats 4000000 in
theorem lp_X11_spread4 {k : WC} {d : Nat} {w : MC} {s : Int → Int} {A : MAs} {l : Int} {D : LaS} {E : LaY} {ru : RU} {cs : Int} {h0 : AH} {kd n q a t se kk : Int} {f0 g0 : Int → Int} (hd : 210 ≤ d) (hWb : ∀ k : WC, RuC k s A E ru) (hM : MlD A l D E) (hD : LOK D) (hE : YOK E) (d3 : 0 ≤ cs) (d4 : cs ≤ 30) (hl : s 37 = l) (hcs : s 38 = cs) (hk0 : 0 ≤ kd) (hk1 : kd ≤ 4) (hn1 : 1 ≤ n) (hn : n ≤ 12) (hse0 : 0 ≤ se) (hse1 : se < lSe D) (hfb : ∀ x : Int, 0 ≤ x → x ≤ 40 → 0 ≤ f0 x ∧ f0 x ≤ 14183735261958144) (hc : Cx w k d 0 0 mdX11_spread) (kont : ∀ (z10 z11 : Option AV) (h : AH), MdS h s A → MoM h D E ru cs → h (239, 0) = some (oL 41 f0) → h (240, 0) = some (oL 41 (sp1 D (fun s a => kpS D E ru cs kd n s a) se f0 g0 41)) → Fr isTs h0 h → J w 0 0 200 [some (vR (70, 0)), some (vI kd), some (vI n), some (vI q), some (vI a), some (vI t), some (vI se), some (vI kk), some (vI (nxS D se)), some (vI 41), z10, z11] [] h) : ∀ (zm : Nat) (j : Nat) (z10 z11 : Option AV) (f g : Int → Int) (h : AH), 41 - j = zm → j ≤ 41 → f = f0 → g = sp1 D (fun s a => kpS D E ru cs kd n s a) se f0 g0 j → MdS h s A → MoM h D E ru cs → h (239, 0) = some (oL 41 f) → h (240, 0) = some (oL 41 g) → Fr isTs h0 h → J w 0 0 83 [some (vR (70, 0)), some (vI kd), some (vI n), some (vI q), some (vI a), some (vI t), some (vI se), some (vI kk), some (vI (nxS D se)), some (vI j), z10, z11] [] h := by
  intro zm
  induction zm using Nat.strongRecOn with
  | _ zm ih =>
    intro j z10 z11 f g h hm hj hf0 hg hS hm0 z39 z40 hF
    have zn := nxS_b hD hse0
    have d13 := hD.2.2.2.2.2.2.2.2.2.2.2.2
    obtain ⟨zh1, zh2, zh3, zh4, zh5, zh6⟩ := d13 (nxS D se) zn.1 zn.2
    by_cases hj41 : j = 41
    · subst hj41
      refine j_iload hc dX11_spread_83 rfl ?_
      refine j_bipush hc dX11_spread_85 (by decide) ?_
      refine j_icmp_ge (tgt := 200) hc dX11_spread_87 (by decide) ⟨by omega, by omega⟩ ⟨by omega, by omega⟩ (fun zc1 => ?_) (fun zc1 => ?_)
      · subst hf0
        subst hg
        exact kont _ _ h hS hm0 z39 z40 hF
      · exact absurd zc1 (by omega)
    have hfj := hfb j (by omega) (by omega)
    by_cases hf1 : f0 j = 0
    · have hfx : f j = 0 := by rw [hf0]; exact hf1
      refine j_iload hc dX11_spread_83 rfl ?_
      refine j_bipush hc dX11_spread_85 (by decide) ?_
      refine j_icmp_ge (tgt := 200) hc dX11_spread_87 (by decide) ⟨by omega, by omega⟩ ⟨by omega, by omega⟩ (fun zc1 => ?_) (fun zc1 => ?_)
      · exact absurd zc1 (by omega)
      · refine j_aload_n hc dX11_spread_90 rfl ?_
        refine j_get hc dX11_spread_91 fX11_96 hS.1 rfl ?_
        refine j_iload hc dX11_spread_94 rfl ?_
        refine j_lald hc dX11_spread_96 z39 (by omega) (by omega) ?_
        rw [hfx]
        refine j_lconst (x := 0) hc dX11_spread_97 (by decide) ?_
        refine j_lcmp hc dX11_spread_98 ⟨by omega, by omega⟩ ⟨by omega, by omega⟩ ?_
        refine j_if_ne (b := 0) (tgt := 106) hc dX11_spread_99 (by decide) (by unfold lc; split <;> (try split) <;> exact ⟨by omega, by omega⟩) (fun zc2 => ?_) (fun zc2 => ?_)
        · exact absurd (by decide) zc2
        · refine j_iconst hc dX11_spread_102 ?_
          refine j_goto (tgt := 124) hc dX11_spread_103 (by decide) ?_
          refine j_istore (L' := [_, _, _, _, _, _, _, _, _, _, _, _]) hc dX11_spread_124 (Nat.le_of_ble_eq_true rfl) rfl ?_
          refine j_iconst hc dX11_spread_126 ?_
          refine j_istore (L' := [_, _, _, _, _, _, _, _, _, _, _, _]) hc dX11_spread_127 (Nat.le_of_ble_eq_true rfl) rfl ?_
          refine j_iload hc dX11_spread_129 rfl ?_
          refine j_aload_n hc dX11_spread_131 rfl ?_
          refine j_iload hc dX11_spread_132 rfl ?_
          refine j_callV (d' := d - 1) hc dX11_spread_134 vX11_310 hS.1 (ev_X11_harvests (by omega) hS hM hD hE hl (by omega) (by omega)) rfl (by omega) (by omega) (by omega) rfl rfl (Nat.le_of_ble_eq_true rfl) (ret1 ?_)
          refine j_icmp_ge (tgt := 194) hc dX11_spread_137 (by decide) ⟨by omega, by omega⟩ ⟨by omega, by omega⟩ (fun zc3 => ?_) (fun zc3 => ?_)
          · refine j_iinc (L' := [_, _, _, _, _, _, _, _, _, _, _, _]) hc dX11_spread_194 rfl (Nat.le_of_ble_eq_true rfl) rfl ?_
            refine j_goto (tgt := 83) hc dX11_spread_197 (by decide) ?_
            exact ih _ (by omega) (j + 1) _ _ _ _ _ rfl (by omega) hf0 (by rw [hg]; show _ = if _ then _ else _; rw [if_pos hf1]) hS hm0 z39 z40 (hF)
          · refine j_aload_n hc dX11_spread_140 rfl ?_
            refine j_get hc dX11_spread_141 fX11_96 hS.1 rfl ?_
            refine j_iload hc dX11_spread_144 rfl ?_
            refine j_lald hc dX11_spread_146 z39 (by omega) (by omega) ?_
            rw [hfx]
            refine j_lconst (x := 0) hc dX11_spread_147 (by decide) ?_
            refine j_lcmp hc dX11_spread_148 ⟨by omega, by omega⟩ ⟨by omega, by omega⟩ ?_
            refine j_if_le (b := 0) (tgt := 194) hc dX11_spread_149 (by decide) (by unfold lc; split <;> (try split) <;> exact ⟨by omega, by omega⟩) (fun zc4 => ?_) (fun zc4 => ?_)
            · refine j_iinc (L' := [_, _, _, _, _, _, _, _, _, _, _, _]) hc dX11_spread_194 rfl (Nat.le_of_ble_eq_true rfl) rfl ?_
              refine j_goto (tgt := 83) hc dX11_spread_197 (by decide) ?_
              exact ih _ (by omega) (j + 1) _ _ _ _ _ rfl (by omega) hf0 (by rw [hg]; show _ = if _ then _ else _; rw [if_pos hf1]) hS hm0 z39 z40 (hF)
            · exact absurd (by decide) zc4
    · have hfx : f j = f0 j := by rw [hf0]
      have hfp : 0 < f0 j := by omega
      have zk := kpS_b hD hE (ru := ru) (cs := cs) (sr := kd) (n := n) (s := se) (a := j) (by omega)
      have zle := leS_b hD (k := kpS D E ru cs kd n se j) zk.1
      refine j_iload hc dX11_spread_83 rfl ?_
      refine j_bipush hc dX11_spread_85 (by decide) ?_
      refine j_icmp_ge (tgt := 200) hc dX11_spread_87 (by decide) ⟨by omega, by omega⟩ ⟨by omega, by omega⟩ (fun zc1 => ?_) (fun zc1 => ?_)
      · exact absurd zc1 (by omega)
      · refine j_aload_n hc dX11_spread_90 rfl ?_
        refine j_get hc dX11_spread_91 fX11_96 hS.1 rfl ?_
        refine j_iload hc dX11_spread_94 rfl ?_
        refine j_lald hc dX11_spread_96 z39 (by omega) (by omega) ?_
        rw [hfx]
        refine j_lconst (x := 0) hc dX11_spread_97 (by decide) ?_
        refine j_lcmp hc dX11_spread_98 ⟨by omega, by omega⟩ ⟨by omega, by omega⟩ ?_
        refine j_if_ne (b := 0) (tgt := 106) hc dX11_spread_99 (by decide) (by unfold lc; split <;> (try split) <;> exact ⟨by omega, by omega⟩) (fun zc2 => ?_) (fun zc2 => ?_)
        · refine j_aload_n hc dX11_spread_106 rfl ?_
          refine j_aload_n hc dX11_spread_107 rfl ?_
          refine j_get hc dX11_spread_108 fX11_278 hS.1 rfl ?_
          rw [hl]
          refine j_aload_n hc dX11_spread_111 rfl ?_
          refine j_iload_n hc dX11_spread_112 rfl ?_
          refine j_iload_n hc dX11_spread_113 rfl ?_
          refine j_iload hc dX11_spread_114 rfl ?_
          refine j_iload hc dX11_spread_116 rfl ?_
          refine j_callV (d' := d - 1) hc dX11_spread_118 vX11_319 hS.1 (tb_kept (by omega) (⟨hS, hm0, Fr.rf _ _, hl, hcs⟩ : TbA s A D E ru cs l _ _) (hWb _) hM hD hE d3 d4 (by omega) (by omega) (by omega) (by omega) (by omega) (by omega) (by omega) (by omega)) rfl (by omega) (by omega) (by omega) rfl rfl (Nat.le_of_ble_eq_true rfl) (retE fun zv118 zq118 zp118 => ?_)
          obtain ⟨zv1, zT1⟩ := zp118
          subst zv1
          refine j_callV (d' := d - 1) hc dX11_spread_121 vX11_275 zT1.1.1 (ev_X11_leftOf (by omega) zT1.1 hM hD hE (by omega) (by omega)) rfl (by omega) (by omega) (by omega) rfl rfl (Nat.le_of_ble_eq_true rfl) (ret1 ?_)
          refine j_istore (L' := [_, _, _, _, _, _, _, _, _, _, _, _]) hc dX11_spread_124 (Nat.le_of_ble_eq_true rfl) rfl ?_
          refine j_iconst hc dX11_spread_126 ?_
          refine j_istore (L' := [_, _, _, _, _, _, _, _, _, _, _, _]) hc dX11_spread_127 (Nat.le_of_ble_eq_true rfl) rfl ?_
          refine lp_X11_spread5 (g0 := g) (f0 := f) hd hWb hM hD hE d3 d4 hl hcs hse0 (by omega) (by omega) zle.1 (by omega) hfx hfp (by omega) hc (fun z11 h2 zS2 zm2 z392 z402 zF2 => ?_) _ 0 f g _ rfl (by omega) rfl rfl zT1.1 zT1.2.1 ((zT1.2.2.1 _ (by decide)).trans z39) ((zT1.2.2.1 _ (by decide)).trans z40) (Fr.tr (hF) (zT1.2.2.1.mono fun z zz => Or.inl zz))
          refine j_iinc (L' := [_, _, _, _, _, _, _, _, _, _, _, _]) hc dX11_spread_194 rfl (Nat.le_of_ble_eq_true rfl) rfl ?_
          refine j_goto (tgt := 83) hc dX11_spread_197 (by decide) ?_
          exact ih _ (by omega) (j + 1) _ _ _ _ _ rfl (by omega) hf0 (by rw [hg]; show _ = if _ then _ else _; rw [if_neg hf1]) zS2 zm2 z392 z402 zF2
        · exact absurd zc2 (by unfold lc; split <;> (try split) <;> omega)
set_option maxRecDepth 100000 in
set_option maxHeartbeats 4000000 in
theorem lp_X11_spread2 {k : WC} {d : Nat} {w : MC} {s : Int → Int} {A : MAs} {l : Int} {D : LaS} {E : LaY} {ru : RU} {cs : Int} {h0 : AH} {kd n q a t : Int} (hd : 210 ≤ d) (hWb : ∀ k : WC, RuC k s A E ru) (hM : MlD A l D E) (hD : LOK D) (hE : YOK E) (d3 : 0 ≤ cs) (d4 : cs ≤ 30) (hl : s 37 = l) (hcs : s 38 = cs) (hk0 : 0 ≤ kd) (hk1 : kd ≤ 4) (hn1 : 1 ≤ n) (hn : n ≤ 12) (hs0 : 0 ≤ q) (hs1 : q < lSe D) (ht0 : 0 ≤ t) (ht1 : t ≤ 6) (hc : Cx w k d 0 0 mdX11_spread) (he : Ends w 0 0 (pe fun v h' => v = vI (spN D (fun s a => kpS D E ru cs kd n s a) q a t.toNat).1 ∧ ∃ f g : Int → Int, (∀ x : Int, 0 ≤ x → x ≤ 40 → f x = (spN D (fun s a => kpS D E ru cs kd n s a) q a t.toNat).2 x) ∧ MdS h' s A ∧ MoM h' D E ru cs ∧ h' (239, 0) = some (oL 41 f) ∧ h' (240, 0) = some (oL 41 g) ∧ Fr isTs h0 h')) : ∀ (zm : Nat) (j : Nat) (se : Int) (z8 z9 z10 z11 : Option AV) (f g : Int → Int) (h : AH), 7 - j = zm → (j : Int) ≤ t → se = (spN D (fun s a => kpS D E ru cs kd n s a) q a j).1 → (∀ x : Int, 0 ≤ x → x ≤ 40 → f x = (spN D (fun s a => kpS D E ru cs kd n s a) q a j).2 x) → MdS h s A → MoM h D E ru cs → h (239, 0) = some (oL 41 f) → h (240, 0) = some (oL 41 g) → Fr isTs h0 h → J w 0 0 41 [some (vR (70, 0)), some (vI kd), some (vI n), some (vI q), some (vI a), some (vI t), some (vI se), some (vI j), z8, z9, z10, z11] [] h := by
  intro zm
  induction zm using Nat.strongRecOn with
  | _ zm ih =>
    intro j se z8 z9 z10 z11 f g h hm hj hse hf hS hm0 z39 z40 hF
    have zsb := spN_b hD (kq := (fun s a => kpS D E ru cs kd n s a)) (a := a) hs0 hs1 j
    have hfb : ∀ x : Int, 0 ≤ x → x ≤ 40 → 0 ≤ f x ∧ f x ≤ 14183735261958144 := fun x x0 x1 => by rw [hf x x0 x1]; exact spN_b6 hD hs0 hs1 (by omega) x0 x1
    rw [← hse] at zsb
    refine j_iload hc dX11_spread_41 rfl ?_
    refine j_iload hc dX11_spread_43 rfl ?_
    refine j_icmp_ge (tgt := 240) hc dX11_spread_45 (by decide) ⟨by omega, by omega⟩ ⟨by omega, by omega⟩ (fun zc1 => ?_) (fun zc1 => ?_)
    · refine j_iload hc dX11_spread_240 rfl ?_
      exact j_iret hc he dX11_spread_242 rfl (by omega) (by omega) ⟨_, rfl, by rw [hse, show t.toNat = j by omega], f, g, by rw [show t.toNat = j by omega]; exact hf, hS, hm0, z39, z40, hF⟩
    · refine j_aload_n hc dX11_spread_48 rfl ?_
      refine j_iload hc dX11_spread_49 rfl ?_
      refine j_callV (d' := d - 1) hc dX11_spread_51 vX11_284 hS.1 (ev_X11_after (by omega) hS hM hD hE hl (by omega) (by omega)) rfl (by omega) (by omega) (by omega) rfl rfl (Nat.le_of_ble_eq_true rfl) (ret1 ?_)
      refine j_istore (L' := [_, _, _, _, _, _, _, _, _, _, _, _]) hc dX11_spread_54 (Nat.le_of_ble_eq_true rfl) rfl ?_
      refine j_iconst hc dX11_spread_56 ?_
      refine j_istore (L' := [_, _, _, _, _, _, _, _, _, _, _, _]) hc dX11_spread_57 (Nat.le_of_ble_eq_true rfl) rfl ?_
      refine lp_X11_spread3 (f0 := f) hd hWb hM hD hE d3 d4 hl hcs hc (fun g1 h1 zg1 zS1 zm1 z391 z401 zF1 => ?_) _ 0 f g h rfl (by omega) rfl (fun i i0 i1 => by omega) hS hm0 z39 z40 hF
      refine j_iconst hc dX11_spread_80 ?_
      refine j_istore (L' := [_, _, _, _, _, _, _, _, _, _, _, _]) hc dX11_spread_81 (Nat.le_of_ble_eq_true rfl) rfl ?_
      refine lp_X11_spread4 (f0 := f) (g0 := g1) hd hWb hM hD hE d3 d4 hl hcs hk0 hk1 hn1 hn (by omega) (by omega) hfb hc (fun z10 z11 h2 zS2 zm2 z392 z402 zF2 => ?_) _ 0 _ _ f g1 _ rfl (by omega) rfl rfl zS1 zm1 z391 z401 zF1
      refine j_iconst hc dX11_spread_200 ?_
      refine j_istore (L' := [_, _, _, _, _, _, _, _, _, _, _, _]) hc dX11_spread_201 (Nat.le_of_ble_eq_true rfl) rfl ?_
      refine lp_X11_spread6 (g0 := sp1 D (fun s a => kpS D E ru cs kd n s a) se f g1 41) hd hWb hM hD hE d3 d4 hl hcs hc (fun f3 h3 zf3 zS3 zm3 z393 z403 zF3 => ?_) _ 0 f _ _ rfl (by omega) rfl (fun i i0 i1 => by omega) zS2 zm2 z392 z402 zF2
      refine j_iload hc dX11_spread_230 rfl ?_
      refine j_istore (L' := [_, _, _, _, _, _, _, _, _, _, _, _]) hc dX11_spread_232 (Nat.le_of_ble_eq_true rfl) rfl ?_
      refine j_iinc (L' := [_, _, _, _, _, _, _, _, _, _, _, _]) hc dX11_spread_234 rfl (Nat.le_of_ble_eq_true rfl) rfl ?_
      refine j_goto (tgt := 41) hc dX11_spread_237 (by decide) ?_
      exact ih _ (by omega) (j + 1) _ _ _ _ _ f3 _ h3 rfl (by omega) (by rw [hse]; rfl) (fun x x0 x1 => by rw [zf3 x x0 x1]; show _ = sp1 D (fun s a => kpS D E ru cs kd n s a) (spN D (fun s a => kpS D E ru cs kd n s a) q a j).1 (spN D (fun s a => kpS D E ru cs kd n s a) q a j).2 (fun _ => 0) 41 x; rw [← hse]; exact sp1_congr hD zsb.1 zsb.2.1 (kqP hD hE hn1) hf zg1 41 (by omega) x x0 x1) zS3 zm3 z393 z403 zF3
set_option maxRecDepth 100000 in
set_option maxHeartbeats 4000000 in
theorem tb_spread {k : WC} {d : Nat} {s : Int → Int} {A : MAs} {l : Int} {D : LaS} {E : LaY} {ru : RU} {cs : Int} {h : AH} {kd n q a t : Int} {f g : Int → Int} (hd : 210 ≤ d) (hWb : ∀ k : WC, RuC k s A E ru) (hM : MlD A l D E) (hD : LOK D) (hE : YOK E) (d3 : 0 ≤ cs) (d4 : cs ≤ 30) (hl : s 37 = l) (hcs : s 38 = cs) (hk0 : 0 ≤ kd) (hk1 : kd ≤ 4) (hn1 : 1 ≤ n) (hn : n ≤ 12) (hs0 : 0 ≤ q) (hs1 : q < lSe D) (ha0 : 0 ≤ a) (ha1 : a ≤ 40) (ht0 : 0 ≤ t) (ht1 : t ≤ 6) (hS : MdS h s A) (hm0 : MoM h D E ru cs) (z39 : h (239, 0) = some (oL 41 f)) (z40 : h (240, 0) = some (oL 41 g)) : Ev k d mdX11_spread h [vR (70, 0), vI kd, vI n, vI q, vI a, vI t] 0 0 (pe fun v h' => v = vI (spN D (fun s a => kpS D E ru cs kd n s a) q a t.toNat).1 ∧ ∃ f g : Int → Int, (∀ x : Int, 0 ≤ x → x ≤ 40 → f x = (spN D (fun s a => kpS D E ru cs kd n s a) q a t.toNat).2 x) ∧ MdS h' s A ∧ MoM h' D E ru cs ∧ h' (239, 0) = some (oL 41 f) ∧ h' (240, 0) = some (oL 41 g) ∧ Fr isTs h h') := by
  refine Ev.mk (by decide +kernel) [_, _, _, _, _, _, _, _, _, _, _, _] rfl (Nat.le_of_ble_eq_true rfl) (fun w hc he => ?_)
  refine j_iconst hc dX11_spread_0 ?_
  refine j_istore (L' := [_, _, _, _, _, _, _, _, _, _, _, _]) hc dX11_spread_1 (Nat.le_of_ble_eq_true rfl) rfl ?_
  refine lp_X11_spread1 hd hWb hM hD hE d3 d4 hl hcs ha0 ha1 hc (fun f1 g1 h1 zf1 zS1 zm1 z391 z401 zF1 => ?_) _ 0 f g h rfl (by omega) (fun i i0 i1 => by omega) hS hm0 z39 z40 (Fr.rf _ _)
  refine j_iload_n hc dX11_spread_35 rfl ?_
  refine j_istore (L' := [_, _, _, _, _, _, _, _, _, _, _, _]) hc dX11_spread_36 (Nat.le_of_ble_eq_true rfl) rfl ?_
  refine j_iconst hc dX11_spread_38 ?_
  refine j_istore (L' := [_, _, _, _, _, _, _, _, _, _, _, _]) hc dX11_spread_39 (Nat.le_of_ble_eq_true rfl) rfl ?_
  exact lp_X11_spread2 hd hWb hM hD hE d3 d4 hl hcs hk0 hk1 hn1 hn hs0 hs1 ht0 ht1 hc he _ 0 _ _ _ _ _ f1 g1 h1 rfl (by omega) rfl (fun x x0 x1 => zf1 x x0 x1) zS1 zm1 z391 z401 zF1
set_option maxRecDepth 100000 in
set_option maxHeartbeats 4000000 in
theorem lp_X11_after_ {k : WC} {d : Nat} {w : MC} {s : Int → Int} {A : MAs} {l : Int} {D : LaS} {E : LaY} {ru : RU} {cs : Int} {h0 : AH} {kd n q a t wh x se : Int} {f0 : Int → Int} (hd : 210 ≤ d) (hWb : ∀ k : WC, RuC k s A E ru) (hM : MlD A l D E) (hD : LOK D) (hE : YOK E) (d3 : 0 ≤ cs) (d4 : cs ≤ 30) (hl : s 37 = l) (hcs : s 38 = cs) (hk0 : 0 ≤ kd) (hk1 : kd ≤ 4) (hn1 : 1 ≤ n) (hn : n ≤ 12) (hse0 : 0 ≤ se) (hse1 : se < lSe D) (hwh0 : 0 ≤ wh) (hwh1 : wh ≤ 4) (hix : inI x) (hfb : ∀ x : Int, 0 ≤ x → x ≤ 40 → 0 ≤ f0 x ∧ f0 x ≤ 14183735261958144) (hc : Cx w k d 0 0 mdX11_after_) (he : Ends w 0 0 (pe fun v h' => v = vL (wgN D kd (fun s a => kpS D E ru cs kd n s a) se wh x f0 41) ∧ ∃ g : Int → Int, MdS h' s A ∧ MoM h' D E ru cs ∧ h' (239, 0) = some (oL 41 f0) ∧ h' (240, 0) = some (oL 41 g) ∧ Fr isTs h0 h')) : ∀ (zm : Nat) (j : Nat) (sm : Int) (z13 z14 : Option AV) (f g : Int → Int) (h : AH), 41 - j = zm → j ≤ 41 → sm = wgN D kd (fun s a => kpS D E ru cs kd n s a) se wh x f0 j → f = f0 → MdS h s A → MoM h D E ru cs → h (239, 0) = some (oL 41 f) → h (240, 0) = some (oL 41 g) → Fr isTs h0 h → J w 0 0 70 [some (vR (70, 0)), some (vI l), some (vI kd), some (vI n), some (vI q), some (vI a), some (vI t), some (vI wh), some (vI x), some (vI se), some (vL sm), none, some (vI j), z13, z14] [] h := by
  intro zm
  induction zm using Nat.strongRecOn with
  | _ zm ih =>
    intro j sm z13 z14 f g h hm hj hsm hf0 hS hm0 z39 z40 hF
    by_cases hj41 : j = 41
    · subst hj41
      refine j_iload hc dX11_after__70 rfl ?_
      refine j_bipush hc dX11_after__72 (by decide) ?_
      refine j_icmp_ge (tgt := 212) hc dX11_after__74 (by decide) ⟨by omega, by omega⟩ ⟨by omega, by omega⟩ (fun zc1 => ?_) (fun zc1 => ?_)
      · refine j_lload hc dX11_after__212 rfl ?_
        exact j_lret hc he dX11_after__214 rfl (by omega) (by omega) ⟨_, rfl, by rw [hsm], g, hS, hm0, by rw [← hf0]; exact z39, z40, hF⟩
      · exact absurd zc1 (by omega)
    have hfj := hfb j (by omega) (by omega)
    by_cases hf1 : f0 j = 0
    · have hfx : f j = 0 := by rw [hf0]; exact hf1
      refine j_iload hc dX11_after__70 rfl ?_
      refine j_bipush hc dX11_after__72 (by decide) ?_
      refine j_icmp_ge (tgt := 212) hc dX11_after__74 (by decide) ⟨by omega, by omega⟩ ⟨by omega, by omega⟩ (fun zc1 => ?_) (fun zc1 => ?_)
      · exact absurd zc1 (by omega)
      · refine j_aload_n hc dX11_after__77 rfl ?_
        refine j_get hc dX11_after__78 fX11_96 hS.1 rfl ?_
        refine j_iload hc dX11_after__81 rfl ?_
        refine j_lald hc dX11_after__83 z39 (by omega) (by omega) ?_
        rw [hfx]
        refine j_lconst (x := 0) hc dX11_after__84 (by decide) ?_
        refine j_lcmp hc dX11_after__85 ⟨by omega, by omega⟩ ⟨by omega, by omega⟩ ?_
        refine j_if_ne (b := 0) (tgt := 92) hc dX11_after__86 (by decide) (by unfold lc; split <;> (try split) <;> exact ⟨by omega, by omega⟩) (fun zc2 => ?_) (fun zc2 => ?_)
        · exact absurd (by decide) zc2
        · refine j_goto (tgt := 206) hc dX11_after__89 (by decide) ?_
          refine j_iinc (L' := [_, _, _, _, _, _, _, _, _, _, _, _, _, _, _]) hc dX11_after__206 rfl (Nat.le_of_ble_eq_true rfl) rfl ?_
          refine j_goto (tgt := 70) hc dX11_after__209 (by decide) ?_
          exact ih _ (by omega) (j + 1) _ _ _ _ _ _ rfl (by omega) (by rw [hsm]; show _ = if _ then _ else _; rw [if_pos hf1]) hf0 hS hm0 z39 z40 (hF)
    · have hfx : f j = f0 j := by rw [hf0]
      have zk := kpS_b hD hE (ru := ru) (cs := cs) (sr := kd) (n := n) (s := se) (a := j) (by omega)
      have zpo := poS_b hD kd (j - kpS D E ru cs kd n se j)
      refine j_iload hc dX11_after__70 rfl ?_
      refine j_bipush hc dX11_after__72 (by decide) ?_
      refine j_icmp_ge (tgt := 212) hc dX11_after__74 (by decide) ⟨by omega, by omega⟩ ⟨by omega, by omega⟩ (fun zc1 => ?_) (fun zc1 => ?_)
      · exact absurd zc1 (by omega)
      · refine j_aload_n hc dX11_after__77 rfl ?_
        refine j_get hc dX11_after__78 fX11_96 hS.1 rfl ?_
        refine j_iload hc dX11_after__81 rfl ?_
        refine j_lald hc dX11_after__83 z39 (by omega) (by omega) ?_
        rw [hfx]
        refine j_lconst (x := 0) hc dX11_after__84 (by decide) ?_
        refine j_lcmp hc dX11_after__85 ⟨by omega, by omega⟩ ⟨by omega, by omega⟩ ?_
        refine j_if_ne (b := 0) (tgt := 92) hc dX11_after__86 (by decide) (by unfold lc; split <;> (try split) <;> exact ⟨by omega, by omega⟩) (fun zc2 => ?_) (fun zc2 => ?_)
        · refine j_aload_n hc dX11_after__92 rfl ?_
          refine j_iload_n hc dX11_after__93 rfl ?_
          refine j_iload_n hc dX11_after__94 rfl ?_
          refine j_iload hc dX11_after__95 rfl ?_
          refine j_iload hc dX11_after__97 rfl ?_
          refine j_callV (d' := d - 1) hc dX11_after__99 vX11_351 hS.1 (tb_priceOf (by omega) (⟨hS, hm0, Fr.rf _ _, hl, hcs⟩ : TbA s A D E ru cs l _ _) (hWb _) hM hD hE d3 d4 (by omega) (by omega) (by omega) (by omega) (by omega) (by omega) (by omega) (by omega)) rfl (by omega) (by omega) (by omega) rfl rfl (Nat.le_of_ble_eq_true rfl) (retE fun zv99 zq99 zp99 => ?_)
          obtain ⟨zv1, zT1⟩ := zp99
          subst zv1
          refine j_istore (L' := [_, _, _, _, _, _, _, _, _, _, _, _, _, _, _]) hc dX11_after__102 (Nat.le_of_ble_eq_true rfl) rfl ?_
          refine j_iload hc dX11_after__104 rfl ?_
          refine j_if_ne (b := 0) (tgt := 124) hc dX11_after__106 (by decide) ⟨by omega, by omega⟩ (fun zc3 => ?_) (fun zc3 => ?_)
          · refine j_iload hc dX11_after__124 rfl ?_
            refine j_iconst hc dX11_after__126 ?_
            refine j_icmp_ne (tgt := 151) hc dX11_after__127 (by decide) ⟨by omega, by omega⟩ ⟨by omega, by omega⟩ (fun zc4 => ?_) (fun zc4 => ?_)
            · refine j_iload hc dX11_after__151 rfl ?_
              refine j_iconst hc dX11_after__153 ?_
              refine j_icmp_ne (tgt := 164) hc dX11_after__154 (by decide) ⟨by omega, by omega⟩ ⟨by omega, by omega⟩ (fun zc5 => ?_) (fun zc5 => ?_)
              · refine j_iconst hc dX11_after__164 ?_
                refine j_goto (tgt := 169) hc dX11_after__165 (by decide) ?_
                refine j_istore (L' := [_, _, _, _, _, _, _, _, _, _, _, _, _, _, _]) hc dX11_after__169 (Nat.le_of_ble_eq_true rfl) rfl ?_
                refine j_lload hc dX11_after__171 rfl ?_
                refine j_iload hc dX11_after__173 rfl ?_
                refine j_if_eq (b := 0) (tgt := 202) hc dX11_after__175 (by decide) ⟨by omega, by omega⟩ (fun zc6 => ?_) (fun zc6 => ?_)
                · exact absurd zc6 (by decide)
                · refine j_aload_n hc dX11_after__178 rfl ?_
                  refine j_get hc dX11_after__179 fX11_96 zT1.1.1 rfl ?_
                  refine j_iload hc dX11_after__182 rfl ?_
                  refine j_lald hc dX11_after__184 ((zT1.2.2.1 _ (by decide)).trans z39) (by omega) (by omega) ?_
                  rw [hfx]
                  refine j_iload hc dX11_after__185 rfl ?_
                  refine j_iconst hc dX11_after__187 ?_
                  refine j_icmp_ne (tgt := 196) hc dX11_after__188 (by decide) ⟨by omega, by omega⟩ ⟨by omega, by omega⟩ (fun zc7 => ?_) (fun zc7 => ?_)
                  · refine j_iconst hc dX11_after__196 ?_
                    refine j_i2l hc dX11_after__197 ⟨by omega, by omega⟩ ?_
                    refine j_lmul hc dX11_after__198 ?_
                    refine j_goto (tgt := 203) hc dX11_after__199 (by decide) ?_
                    refine j_ladd hc dX11_after__203 ?_
                    refine j_lstore (L' := [_, _, _, _, _, _, _, _, _, _, _, _, _, _, _]) hc dX11_after__204 (Nat.le_of_ble_eq_true rfl) rfl ?_
                    refine j_iinc (L' := [_, _, _, _, _, _, _, _, _, _, _, _, _, _, _]) hc dX11_after__206 rfl (Nat.le_of_ble_eq_true rfl) rfl ?_
                    refine j_goto (tgt := 70) hc dX11_after__209 (by decide) ?_
                    exact ih _ (by omega) (j + 1) _ _ _ _ _ _ rfl (by omega) (by rw [hsm]; show _ = if _ then _ else _; rw [if_neg hf1]; congr 1; unfold shS; (try dsimp only); (repeat (first | rw [if_pos (by omega)] | rw [if_neg (by omega)])); try (first | rfl | omega | simp)) hf0 zT1.1 zT1.2.1 ((zT1.2.2.1 _ (by decide)).trans z39) ((zT1.2.2.1 _ (by decide)).trans z40) (Fr.tr (hF) (zT1.2.2.1.mono fun z zz => Or.inl zz))
                  · refine j_iload hc dX11_after__191 rfl ?_
                    refine j_goto (tgt := 197) hc dX11_after__193 (by decide) ?_
                    refine j_i2l hc dX11_after__197 ⟨by omega, by omega⟩ ?_
                    refine j_lmul hc dX11_after__198 ?_
                    refine j_goto (tgt := 203) hc dX11_after__199 (by decide) ?_
                    refine j_ladd hc dX11_after__203 ?_
                    refine j_lstore (L' := [_, _, _, _, _, _, _, _, _, _, _, _, _, _, _]) hc dX11_after__204 (Nat.le_of_ble_eq_true rfl) rfl ?_
                    refine j_iinc (L' := [_, _, _, _, _, _, _, _, _, _, _, _, _, _, _]) hc dX11_after__206 rfl (Nat.le_of_ble_eq_true rfl) rfl ?_
                    refine j_goto (tgt := 70) hc dX11_after__209 (by decide) ?_
                    exact ih _ (by omega) (j + 1) _ _ _ _ _ _ rfl (by omega) (by rw [hsm]; show _ = if _ then _ else _; rw [if_neg hf1]; congr 1; unfold shS; (try dsimp only); (repeat (first | rw [if_pos (by omega)] | rw [if_neg (by omega)])); try (first | rfl | omega | simp)) hf0 zT1.1 zT1.2.1 ((zT1.2.2.1 _ (by decide)).trans z39) ((zT1.2.2.1 _ (by decide)).trans z40) (Fr.tr (hF) (zT1.2.2.1.mono fun z zz => Or.inl zz))
              · refine j_iload hc dX11_after__157 rfl ?_
                refine j_iload hc dX11_after__159 rfl ?_
                refine j_icmp_lt (tgt := 168) hc dX11_after__161 (by decide) ⟨by omega, by omega⟩ hix (fun zc8 => ?_) (fun zc8 => ?_)
                · refine j_iconst hc dX11_after__168 ?_
                  refine j_istore (L' := [_, _, _, _, _, _, _, _, _, _, _, _, _, _, _]) hc dX11_after__169 (Nat.le_of_ble_eq_true rfl) rfl ?_
                  refine j_lload hc dX11_after__171 rfl ?_
                  refine j_iload hc dX11_after__173 rfl ?_
                  refine j_if_eq (b := 0) (tgt := 202) hc dX11_after__175 (by decide) ⟨by omega, by omega⟩ (fun zc9 => ?_) (fun zc9 => ?_)
                  · refine j_lconst (x := 0) hc dX11_after__202 (by decide) ?_
                    refine j_ladd hc dX11_after__203 ?_
                    refine j_lstore (L' := [_, _, _, _, _, _, _, _, _, _, _, _, _, _, _]) hc dX11_after__204 (Nat.le_of_ble_eq_true rfl) rfl ?_
                    refine j_iinc (L' := [_, _, _, _, _, _, _, _, _, _, _, _, _, _, _]) hc dX11_after__206 rfl (Nat.le_of_ble_eq_true rfl) rfl ?_
                    refine j_goto (tgt := 70) hc dX11_after__209 (by decide) ?_
                    exact ih _ (by omega) (j + 1) _ _ _ _ _ _ rfl (by omega) (by rw [hsm]; show _ = if _ then _ else _; rw [if_neg hf1]; congr 1; unfold shS; (try dsimp only); (repeat (first | rw [if_pos (by omega)] | rw [if_neg (by omega)])); try (first | rfl | omega | simp)) hf0 zT1.1 zT1.2.1 ((zT1.2.2.1 _ (by decide)).trans z39) ((zT1.2.2.1 _ (by decide)).trans z40) (Fr.tr (hF) (zT1.2.2.1.mono fun z zz => Or.inl zz))
                  · exact absurd rfl zc9
                · refine j_iconst hc dX11_after__164 ?_
                  refine j_goto (tgt := 169) hc dX11_after__165 (by decide) ?_
                  refine j_istore (L' := [_, _, _, _, _, _, _, _, _, _, _, _, _, _, _]) hc dX11_after__169 (Nat.le_of_ble_eq_true rfl) rfl ?_
                  refine j_lload hc dX11_after__171 rfl ?_
                  refine j_iload hc dX11_after__173 rfl ?_
                  refine j_if_eq (b := 0) (tgt := 202) hc dX11_after__175 (by decide) ⟨by omega, by omega⟩ (fun zc10 => ?_) (fun zc10 => ?_)
                  · exact absurd zc10 (by decide)
                  · refine j_aload_n hc dX11_after__178 rfl ?_
                    refine j_get hc dX11_after__179 fX11_96 zT1.1.1 rfl ?_
                    refine j_iload hc dX11_after__182 rfl ?_
                    refine j_lald hc dX11_after__184 ((zT1.2.2.1 _ (by decide)).trans z39) (by omega) (by omega) ?_
                    rw [hfx]
                    refine j_iload hc dX11_after__185 rfl ?_
                    refine j_iconst hc dX11_after__187 ?_
                    refine j_icmp_ne (tgt := 196) hc dX11_after__188 (by decide) ⟨by omega, by omega⟩ ⟨by omega, by omega⟩ (fun zc11 => ?_) (fun zc11 => ?_)
                    · refine j_iconst hc dX11_after__196 ?_
                      refine j_i2l hc dX11_after__197 ⟨by omega, by omega⟩ ?_
                      refine j_lmul hc dX11_after__198 ?_
                      refine j_goto (tgt := 203) hc dX11_after__199 (by decide) ?_
                      refine j_ladd hc dX11_after__203 ?_
                      refine j_lstore (L' := [_, _, _, _, _, _, _, _, _, _, _, _, _, _, _]) hc dX11_after__204 (Nat.le_of_ble_eq_true rfl) rfl ?_
                      refine j_iinc (L' := [_, _, _, _, _, _, _, _, _, _, _, _, _, _, _]) hc dX11_after__206 rfl (Nat.le_of_ble_eq_true rfl) rfl ?_
                      refine j_goto (tgt := 70) hc dX11_after__209 (by decide) ?_
                      exact ih _ (by omega) (j + 1) _ _ _ _ _ _ rfl (by omega) (by rw [hsm]; show _ = if _ then _ else _; rw [if_neg hf1]; congr 1; unfold shS; (try dsimp only); (repeat (first | rw [if_pos (by omega)] | rw [if_neg (by omega)])); try (first | rfl | omega | simp)) hf0 zT1.1 zT1.2.1 ((zT1.2.2.1 _ (by decide)).trans z39) ((zT1.2.2.1 _ (by decide)).trans z40) (Fr.tr (hF) (zT1.2.2.1.mono fun z zz => Or.inl zz))
                    · refine j_iload hc dX11_after__191 rfl ?_
                      refine j_goto (tgt := 197) hc dX11_after__193 (by decide) ?_
                      refine j_i2l hc dX11_after__197 ⟨by omega, by omega⟩ ?_
                      refine j_lmul hc dX11_after__198 ?_
                      refine j_goto (tgt := 203) hc dX11_after__199 (by decide) ?_
                      refine j_ladd hc dX11_after__203 ?_
                      refine j_lstore (L' := [_, _, _, _, _, _, _, _, _, _, _, _, _, _, _]) hc dX11_after__204 (Nat.le_of_ble_eq_true rfl) rfl ?_
                      refine j_iinc (L' := [_, _, _, _, _, _, _, _, _, _, _, _, _, _, _]) hc dX11_after__206 rfl (Nat.le_of_ble_eq_true rfl) rfl ?_
                      refine j_goto (tgt := 70) hc dX11_after__209 (by decide) ?_
                      exact ih _ (by omega) (j + 1) _ _ _ _ _ _ rfl (by omega) (by rw [hsm]; show _ = if _ then _ else _; rw [if_neg hf1]; congr 1; unfold shS; (try dsimp only); (repeat (first | rw [if_pos (by omega)] | rw [if_neg (by omega)])); try (first | rfl | omega | simp)) hf0 zT1.1 zT1.2.1 ((zT1.2.2.1 _ (by decide)).trans z39) ((zT1.2.2.1 _ (by decide)).trans z40) (Fr.tr (hF) (zT1.2.2.1.mono fun z zz => Or.inl zz))
            · refine j_aload_n hc dX11_after__130 rfl ?_
              refine j_iload_n hc dX11_after__131 rfl ?_
              refine j_iload_n hc dX11_after__132 rfl ?_
              refine j_iload hc dX11_after__133 rfl ?_
              refine j_iload hc dX11_after__135 rfl ?_
              refine j_callV (d' := d - 1) hc dX11_after__137 vX11_319 zT1.1.1 (tb_kept (by omega) (⟨zT1.1, zT1.2.1, Fr.rf _ _, hl, hcs⟩ : TbA s A D E ru cs l _ _) (hWb _) hM hD hE d3 d4 (by omega) (by omega) (by omega) (by omega) (by omega) (by omega) (by omega) (by omega)) rfl (by omega) (by omega) (by omega) rfl rfl (Nat.le_of_ble_eq_true rfl) (retE fun zv137 zq137 zp137 => ?_)
              obtain ⟨zv2, zT2⟩ := zp137
              subst zv2
              refine j_if_ne (b := 0) (tgt := 147) hc dX11_after__140 (by decide) ⟨by omega, by omega⟩ (fun zc12 => ?_) (fun zc12 => ?_)
              · refine j_iconst hc dX11_after__147 ?_
                refine j_goto (tgt := 169) hc dX11_after__148 (by decide) ?_
                refine j_istore (L' := [_, _, _, _, _, _, _, _, _, _, _, _, _, _, _]) hc dX11_after__169 (Nat.le_of_ble_eq_true rfl) rfl ?_
                refine j_lload hc dX11_after__171 rfl ?_
                refine j_iload hc dX11_after__173 rfl ?_
                refine j_if_eq (b := 0) (tgt := 202) hc dX11_after__175 (by decide) ⟨by omega, by omega⟩ (fun zc13 => ?_) (fun zc13 => ?_)
                · refine j_lconst (x := 0) hc dX11_after__202 (by decide) ?_
                  refine j_ladd hc dX11_after__203 ?_
                  refine j_lstore (L' := [_, _, _, _, _, _, _, _, _, _, _, _, _, _, _]) hc dX11_after__204 (Nat.le_of_ble_eq_true rfl) rfl ?_
                  refine j_iinc (L' := [_, _, _, _, _, _, _, _, _, _, _, _, _, _, _]) hc dX11_after__206 rfl (Nat.le_of_ble_eq_true rfl) rfl ?_
                  refine j_goto (tgt := 70) hc dX11_after__209 (by decide) ?_
                  exact ih _ (by omega) (j + 1) _ _ _ _ _ _ rfl (by omega) (by rw [hsm]; show _ = if _ then _ else _; rw [if_neg hf1]; congr 1; unfold shS; (try dsimp only); (repeat (first | rw [if_pos (by omega)] | rw [if_neg (by omega)])); try (first | rfl | omega | simp)) hf0 zT2.1 zT2.2.1 ((zT2.2.2.1 _ (by decide)).trans ((zT1.2.2.1 _ (by decide)).trans z39)) ((zT2.2.2.1 _ (by decide)).trans ((zT1.2.2.1 _ (by decide)).trans z40)) (Fr.tr (Fr.tr (hF) (zT1.2.2.1.mono fun z zz => Or.inl zz)) (zT2.2.2.1.mono fun z zz => Or.inl zz))
                · exact absurd rfl zc13
              · refine j_iconst hc dX11_after__143 ?_
                refine j_goto (tgt := 169) hc dX11_after__144 (by decide) ?_
                refine j_istore (L' := [_, _, _, _, _, _, _, _, _, _, _, _, _, _, _]) hc dX11_after__169 (Nat.le_of_ble_eq_true rfl) rfl ?_
                refine j_lload hc dX11_after__171 rfl ?_
                refine j_iload hc dX11_after__173 rfl ?_
                refine j_if_eq (b := 0) (tgt := 202) hc dX11_after__175 (by decide) ⟨by omega, by omega⟩ (fun zc14 => ?_) (fun zc14 => ?_)
                · exact absurd zc14 (by decide)
                · refine j_aload_n hc dX11_after__178 rfl ?_
                  refine j_get hc dX11_after__179 fX11_96 zT2.1.1 rfl ?_
                  refine j_iload hc dX11_after__182 rfl ?_
                  refine j_lald hc dX11_after__184 ((zT2.2.2.1 _ (by decide)).trans ((zT1.2.2.1 _ (by decide)).trans z39)) (by omega) (by omega) ?_
                  rw [hfx]
                  refine j_iload hc dX11_after__185 rfl ?_
                  refine j_iconst hc dX11_after__187 ?_
                  refine j_icmp_ne (tgt := 196) hc dX11_after__188 (by decide) ⟨by omega, by omega⟩ ⟨by omega, by omega⟩ (fun zc15 => ?_) (fun zc15 => ?_)
                  · refine j_iconst hc dX11_after__196 ?_
                    refine j_i2l hc dX11_after__197 ⟨by omega, by omega⟩ ?_
                    refine j_lmul hc dX11_after__198 ?_
                    refine j_goto (tgt := 203) hc dX11_after__199 (by decide) ?_
                    refine j_ladd hc dX11_after__203 ?_
                    refine j_lstore (L' := [_, _, _, _, _, _, _, _, _, _, _, _, _, _, _]) hc dX11_after__204 (Nat.le_of_ble_eq_true rfl) rfl ?_
                    refine j_iinc (L' := [_, _, _, _, _, _, _, _, _, _, _, _, _, _, _]) hc dX11_after__206 rfl (Nat.le_of_ble_eq_true rfl) rfl ?_
                    refine j_goto (tgt := 70) hc dX11_after__209 (by decide) ?_
                    exact ih _ (by omega) (j + 1) _ _ _ _ _ _ rfl (by omega) (by rw [hsm]; show _ = if _ then _ else _; rw [if_neg hf1]; congr 1; unfold shS; (try dsimp only); (repeat (first | rw [if_pos (by omega)] | rw [if_neg (by omega)])); try (first | rfl | omega | simp)) hf0 zT2.1 zT2.2.1 ((zT2.2.2.1 _ (by decide)).trans ((zT1.2.2.1 _ (by decide)).trans z39)) ((zT2.2.2.1 _ (by decide)).trans ((zT1.2.2.1 _ (by decide)).trans z40)) (Fr.tr (Fr.tr (hF) (zT1.2.2.1.mono fun z zz => Or.inl zz)) (zT2.2.2.1.mono fun z zz => Or.inl zz))
                  · refine j_iload hc dX11_after__191 rfl ?_
                    refine j_goto (tgt := 197) hc dX11_after__193 (by decide) ?_
                    refine j_i2l hc dX11_after__197 ⟨by omega, by omega⟩ ?_
                    refine j_lmul hc dX11_after__198 ?_
                    refine j_goto (tgt := 203) hc dX11_after__199 (by decide) ?_
                    refine j_ladd hc dX11_after__203 ?_
                    refine j_lstore (L' := [_, _, _, _, _, _, _, _, _, _, _, _, _, _, _]) hc dX11_after__204 (Nat.le_of_ble_eq_true rfl) rfl ?_
                    refine j_iinc (L' := [_, _, _, _, _, _, _, _, _, _, _, _, _, _, _]) hc dX11_after__206 rfl (Nat.le_of_ble_eq_true rfl) rfl ?_
                    refine j_goto (tgt := 70) hc dX11_after__209 (by decide) ?_
                    exact ih _ (by omega) (j + 1) _ _ _ _ _ _ rfl (by omega) (by rw [hsm]; show _ = if _ then _ else _; rw [if_neg hf1]; congr 1; unfold shS; (try dsimp only); (repeat (first | rw [if_pos (by omega)] | rw [if_neg (by omega)])); try (first | rfl | omega | simp)) hf0 zT2.1 zT2.2.1 ((zT2.2.2.1 _ (by decide)).trans ((zT1.2.2.1 _ (by decide)).trans z39)) ((zT2.2.2.1 _ (by decide)).trans ((zT1.2.2.1 _ (by decide)).trans z40)) (Fr.tr (Fr.tr (hF) (zT1.2.2.1.mono fun z zz => Or.inl zz)) (zT2.2.2.1.mono fun z zz => Or.inl zz))
          · refine j_iload hc dX11_after__109 rfl ?_
            refine j_iload hc dX11_after__111 rfl ?_
            refine j_icmp_gt (tgt := 120) hc dX11_after__113 (by decide) ⟨by omega, by omega⟩ hix (fun zc16 => ?_) (fun zc16 => ?_)
            · refine j_iconst hc dX11_after__120 ?_
              refine j_goto (tgt := 169) hc dX11_after__121 (by decide) ?_
              refine j_istore (L' := [_, _, _, _, _, _, _, _, _, _, _, _, _, _, _]) hc dX11_after__169 (Nat.le_of_ble_eq_true rfl) rfl ?_
              refine j_lload hc dX11_after__171 rfl ?_
              refine j_iload hc dX11_after__173 rfl ?_
              refine j_if_eq (b := 0) (tgt := 202) hc dX11_after__175 (by decide) ⟨by omega, by omega⟩ (fun zc17 => ?_) (fun zc17 => ?_)
              · refine j_lconst (x := 0) hc dX11_after__202 (by decide) ?_
                refine j_ladd hc dX11_after__203 ?_
                refine j_lstore (L' := [_, _, _, _, _, _, _, _, _, _, _, _, _, _, _]) hc dX11_after__204 (Nat.le_of_ble_eq_true rfl) rfl ?_
                refine j_iinc (L' := [_, _, _, _, _, _, _, _, _, _, _, _, _, _, _]) hc dX11_after__206 rfl (Nat.le_of_ble_eq_true rfl) rfl ?_
                refine j_goto (tgt := 70) hc dX11_after__209 (by decide) ?_
                exact ih _ (by omega) (j + 1) _ _ _ _ _ _ rfl (by omega) (by rw [hsm]; show _ = if _ then _ else _; rw [if_neg hf1]; congr 1; unfold shS; (try dsimp only); (repeat (first | rw [if_pos (by omega)] | rw [if_neg (by omega)])); try (first | rfl | omega | simp)) hf0 zT1.1 zT1.2.1 ((zT1.2.2.1 _ (by decide)).trans z39) ((zT1.2.2.1 _ (by decide)).trans z40) (Fr.tr (hF) (zT1.2.2.1.mono fun z zz => Or.inl zz))
              · exact absurd rfl zc17
            · refine j_iconst hc dX11_after__116 ?_
              refine j_goto (tgt := 169) hc dX11_after__117 (by decide) ?_
              refine j_istore (L' := [_, _, _, _, _, _, _, _, _, _, _, _, _, _, _]) hc dX11_after__169 (Nat.le_of_ble_eq_true rfl) rfl ?_
              refine j_lload hc dX11_after__171 rfl ?_
              refine j_iload hc dX11_after__173 rfl ?_
              refine j_if_eq (b := 0) (tgt := 202) hc dX11_after__175 (by decide) ⟨by omega, by omega⟩ (fun zc18 => ?_) (fun zc18 => ?_)
              · exact absurd zc18 (by decide)
              · refine j_aload_n hc dX11_after__178 rfl ?_
                refine j_get hc dX11_after__179 fX11_96 zT1.1.1 rfl ?_
                refine j_iload hc dX11_after__182 rfl ?_
                refine j_lald hc dX11_after__184 ((zT1.2.2.1 _ (by decide)).trans z39) (by omega) (by omega) ?_
                rw [hfx]
                refine j_iload hc dX11_after__185 rfl ?_
                refine j_iconst hc dX11_after__187 ?_
                refine j_icmp_ne (tgt := 196) hc dX11_after__188 (by decide) ⟨by omega, by omega⟩ ⟨by omega, by omega⟩ (fun zc19 => ?_) (fun zc19 => ?_)
                · refine j_iconst hc dX11_after__196 ?_
                  refine j_i2l hc dX11_after__197 ⟨by omega, by omega⟩ ?_
                  refine j_lmul hc dX11_after__198 ?_
                  refine j_goto (tgt := 203) hc dX11_after__199 (by decide) ?_
                  refine j_ladd hc dX11_after__203 ?_
                  refine j_lstore (L' := [_, _, _, _, _, _, _, _, _, _, _, _, _, _, _]) hc dX11_after__204 (Nat.le_of_ble_eq_true rfl) rfl ?_
                  refine j_iinc (L' := [_, _, _, _, _, _, _, _, _, _, _, _, _, _, _]) hc dX11_after__206 rfl (Nat.le_of_ble_eq_true rfl) rfl ?_
                  refine j_goto (tgt := 70) hc dX11_after__209 (by decide) ?_
                  exact ih _ (by omega) (j + 1) _ _ _ _ _ _ rfl (by omega) (by rw [hsm]; show _ = if _ then _ else _; rw [if_neg hf1]; congr 1; unfold shS; (try dsimp only); (repeat (first | rw [if_pos (by omega)] | rw [if_neg (by omega)])); try (first | rfl | omega | simp)) hf0 zT1.1 zT1.2.1 ((zT1.2.2.1 _ (by decide)).trans z39) ((zT1.2.2.1 _ (by decide)).trans z40) (Fr.tr (hF) (zT1.2.2.1.mono fun z zz => Or.inl zz))
                · refine j_iload hc dX11_after__191 rfl ?_
                  refine j_goto (tgt := 197) hc dX11_after__193 (by decide) ?_
                  refine j_i2l hc dX11_after__197 ⟨by omega, by omega⟩ ?_
                  refine j_lmul hc dX11_after__198 ?_
                  refine j_goto (tgt := 203) hc dX11_after__199 (by decide) ?_
                  refine j_ladd hc dX11_after__203 ?_
                  refine j_lstore (L' := [_, _, _, _, _, _, _, _, _, _, _, _, _, _, _]) hc dX11_after__204 (Nat.le_of_ble_eq_true rfl) rfl ?_
                  refine j_iinc (L' := [_, _, _, _, _, _, _, _, _, _, _, _, _, _, _]) hc dX11_after__206 rfl (Nat.le_of_ble_eq_true rfl) rfl ?_
                  refine j_goto (tgt := 70) hc dX11_after__209 (by decide) ?_
                  exact ih _ (by omega) (j + 1) _ _ _ _ _ _ rfl (by omega) (by rw [hsm]; show _ = if _ then _ else _; rw [if_neg hf1]; congr 1; unfold shS; (try dsimp only); (repeat (first | rw [if_pos (by omega)] | rw [if_neg (by omega)])); try (first | rfl | omega | simp)) hf0 zT1.1 zT1.2.1 ((zT1.2.2.1 _ (by decide)).trans z39) ((zT1.2.2.1 _ (by decide)).trans z40) (Fr.tr (hF) (zT1.2.2.1.mono fun z zz => Or.inl zz))
        · exact absurd zc2 (by unfold lc; split <;> (try split) <;> omega)
set_option maxRecDepth 100000 in
set_option maxHeartbeats 4000000 in
theorem ev_X11_after__a {k : WC} {d : Nat} {h : AH} {S : BaS} {th : Int} {l sr n q a t wh x : Int} (hd : 300 ≤ d) (hMo : ModAt h S th) (hil : inI l) (hir : inI sr) (hin : inI n) (his : inI q) (hia : inI a) (hit : inI t) (hiw : inI wh) (hix : inI x) : Ev k d mdX11_after_ h [vR (70, 0), vI l, vI sr, vI n, vI q, vI a, vI t, vI wh, vI x] 0 0 (pe fun v h' => v = vL (aAft S l sr n q a t wh x) ∧ ModAt h' S th ∧ Fr isMo h h') := by
  obtain ⟨s, A, hS, hR, hB, hX, hK⟩ := id hMo
  obtain ⟨m0, m2, m22, m27, m44, m45, m46, mTp, mLd, mRu, mRw, mFr⟩ := id hR
  obtain ⟨⟨kTa, kTb⟩, ⟨kL0, kL1⟩, ⟨kR0, kR1⟩, kLd, kRu, kRw, ⟨kT0, kT1⟩, kS0, kS1⟩ := id hK
  refine Ev.mk (by decide +kernel) [_, _, _, _, _, _, _, _, _, _, _, _, _, _, _] rfl (Nat.le_of_ble_eq_true rfl) (fun w hc he => ?_)
  refine j_aload_n hc dX11_after__0 rfl ?_
  refine j_iload_n hc dX11_after__1 rfl ?_
  refine j_iload_n hc dX11_after__2 rfl ?_
  refine j_iload hc dX11_after__3 rfl ?_
  refine j_iload hc dX11_after__5 rfl ?_
  refine j_callV (d' := d - 1) hc dX11_after__7 vX11_341 hS.1 (ev_X11_isState (by omega) hS hR hK hil hin his hia) rfl (by omega) (by omega) (by omega) rfl rfl (Nat.le_of_ble_eq_true rfl) (ret1 ?_)
  refine j_if_eq (b := 0) (tgt := 41) hc dX11_after__10 (by decide) (by split <;> exact ⟨by omega, by omega⟩) (fun zc1 => ?_) (fun zc1 => ?_)
  · have zw5 := one_neg zc1
    refine j_ldc2 (x := -1) hc dX11_after__41 kX11_354 (by decide) ?_
    exact j_lret hc he dX11_after__44 rfl (by omega) (by omega) ⟨_, rfl, by unfold aAft; rw [if_neg (by omega)], hMo, Fr.rf _ _⟩
  · have zw := one_pos zc1
    have zw1 := zw.1
    obtain ⟨⟨n1, n12⟩, ⟨s0, s4⟩, a0, a40⟩ := zw.2
    obtain ⟨hD, hE, hrn, hyo⟩ := kLd l zw1.1 zw1.2
    have hM := mLd l zw1.1 zw1.2
    obtain ⟨⟨zl0, zl1⟩, mSe, mNe, mPa, mCo, mMi, mRo, mLa, mRn, mHv, mBu, mSl, mGr, mTb⟩ := id hM
    obtain ⟨d1, d2, d3, d4, d5, d6, d7, d8, d9, d10, d11, d12, d13⟩ := id hD
    obtain ⟨y1, y2, y3, y4, y5, y6, y7, y8, y9, y10⟩ := id hE
    have hW := fun k => ru_of (k := k) (l := l) hR hK zw1
    have hWb := fun k => ru_of (k := k) (l := l) (MoR.s37 (l := l) (c := lCo (bD S l)) hR) hK zw1
    refine j_iload_n hc dX11_after__13 rfl ?_
    refine j_callS (d' := d - 1) hc dX11_after__14 sX11_345 (ev_X11_isKind (by omega) hir) rfl (by omega) (by omega) (by omega) rfl rfl (Nat.le_of_ble_eq_true rfl) (ret1 ?_)
    refine j_if_eq (b := 0) (tgt := 41) hc dX11_after__17 (by decide) (by split <;> exact ⟨by omega, by omega⟩) (fun zc2 => ?_) (fun zc2 => ?_)
    · have zk := one_neg zc2
      refine j_ldc2 (x := -1) hc dX11_after__41 kX11_354 (by decide) ?_
      exact j_lret hc he dX11_after__44 rfl (by omega) (by omega) ⟨_, rfl, by unfold aAft; rw [if_neg (by omega)], hMo, Fr.rf _ _⟩
    · have zk := one_pos zc2
      refine j_iload hc dX11_after__20 rfl ?_
      refine j_iconst hc dX11_after__22 ?_
      refine j_bipush hc dX11_after__23 (by decide) ?_
      refine j_callS (d' := d - 1) hc dX11_after__25 sX11_145 (ev_X11_in (by omega) hit ⟨by omega, by omega⟩ ⟨by omega, by omega⟩) rfl (by omega) (by omega) (by omega) rfl rfl (Nat.le_of_ble_eq_true rfl) (ret1 ?_)
      refine j_if_eq (b := 0) (tgt := 41) hc dX11_after__28 (by decide) (by split <;> exact ⟨by omega, by omega⟩) (fun zc3 => ?_) (fun zc3 => ?_)
      · have zk := one_neg zc3
        refine j_ldc2 (x := -1) hc dX11_after__41 kX11_354 (by decide) ?_
        exact j_lret hc he dX11_after__44 rfl (by omega) (by omega) ⟨_, rfl, by unfold aAft; rw [if_neg (by omega)], hMo, Fr.rf _ _⟩
      · have zt := one_pos zc3
        refine j_iload hc dX11_after__31 rfl ?_
        refine j_iconst hc dX11_after__33 ?_
        refine j_iconst hc dX11_after__34 ?_
        refine j_callS (d' := d - 1) hc dX11_after__35 sX11_145 (ev_X11_in (by omega) hiw ⟨by omega, by omega⟩ ⟨by omega, by omega⟩) rfl (by omega) (by omega) (by omega) rfl rfl (Nat.le_of_ble_eq_true rfl) (ret1 ?_)
        refine j_if_ne (b := 0) (tgt := 45) hc dX11_after__38 (by decide) (by split <;> exact ⟨by omega, by omega⟩) (fun zc4 => ?_) (fun zc4 => ?_)
        · have zh := one_pos zc4
          refine j_aload_n hc dX11_after__45 rfl ?_
          refine j_iload_n hc dX11_after__46 rfl ?_
          refine j_callV (d' := d - 1) hc dX11_after__47 vX11_348 hS.1 (ev_X11_begin (ru := ruC S l) (by omega) hS hM hD hE hB) rfl (by omega) (by omega) (by omega) rfl rfl (Nat.le_of_ble_eq_true rfl) (retN fun zq47 zp47 => ?_)
          have zT0 := BgA.tb zp47
          have hl := zT0.2.2.2.1
          obtain ⟨⟨f39, y39⟩, ⟨f40, y40⟩, -, -⟩ := id hX
          have z39 := (zT0.2.2.1 (239, 0) (by decide)).trans y39
          have z40 := (zT0.2.2.1 (240, 0) (by decide)).trans y40
          refine j_aload_n hc dX11_after__50 rfl ?_
          refine j_iload_n hc dX11_after__51 rfl ?_
          refine j_iload_n hc dX11_after__52 rfl ?_
          refine j_iload hc dX11_after__53 rfl ?_
          refine j_iload hc dX11_after__55 rfl ?_
          refine j_iload hc dX11_after__57 rfl ?_
          refine j_callV (d' := d - 1) hc dX11_after__59 vX11_363 zT0.1.1 (tb_spread (by omega) hWb hM hD hE d3 d4 rfl rfl (by omega) (by omega) n1 n12 s0 s4 a0 a40 (by omega) (by omega) zT0.1 zT0.2.1 z39 z40) rfl (by omega) (by omega) (by omega) rfl rfl (Nat.le_of_ble_eq_true rfl) (retE fun zv59 zq59 zp59 => ?_)
          obtain ⟨zv1, f1, g1, zf1, zS1, zm1, z391, z401, zF1⟩ := zp59
          subst zv1
          refine j_istore (L' := [_, _, _, _, _, _, _, _, _, _, _, _, _, _, _]) hc dX11_after__62 (Nat.le_of_ble_eq_true rfl) rfl ?_
          refine j_lconst (x := 0) hc dX11_after__64 (by decide) ?_
          refine j_lstore (L' := [_, _, _, _, _, _, _, _, _, _, _, _, _, _, _]) hc dX11_after__65 (Nat.le_of_ble_eq_true rfl) rfl ?_
          refine j_iconst hc dX11_after__67 ?_
          refine j_istore (L' := [_, _, _, _, _, _, _, _, _, _, _, _, _, _, _]) hc dX11_after__68 (Nat.le_of_ble_eq_true rfl) rfl ?_
          have zsp := spN_b hD (kq := fun s a => kpS (bD S l) (bE S l) (ruC S l) (lCo (bD S l)) sr n s a) (a := a) s0 s4 t.toNat
          exact lp_X11_after_ (by omega) hWb hM hD hE d3 d4 rfl rfl (by omega) (by omega) n1 n12 zsp.1 zsp.2.1 (by omega) (by omega) hix (fun y y0 y1 => by rw [zf1 y y0 y1]; exact spN_b6 hD s0 s4 (by omega) y0 y1) hc (he.mono fun r h' zp => by obtain ⟨v, zr, zv, g, y1, y2, y3, y4, y5⟩ := zp; exact ⟨v, zr, by rw [zv]; unfold aAft afS; rw [if_pos ⟨⟨zw, zk⟩, zt, zh⟩]; exact congrArg vL (wgN_congr zf1 41 (by omega)), ⟨_, A, y1, MoR.s37 hR, y2.b, hX.fs y5 y3 y4, hK⟩, y5.mono fun z zz => isTs_mo zz⟩) _ 0 0 _ _ f1 g1 _ rfl (by omega) rfl rfl zS1 zm1 z391 z401 ((zT0.2.2.1.mono fun z zz => Or.inl zz).tr zF1)
        · have zk := one_neg zc4
          refine j_ldc2 (x := -1) hc dX11_after__41 kX11_354 (by decide) ?_
          exact j_lret hc he dX11_after__44 rfl (by omega) (by omega) ⟨_, rfl, by unfold aAft; rw [if_neg (by omega)], hMo, Fr.rf _ _⟩
