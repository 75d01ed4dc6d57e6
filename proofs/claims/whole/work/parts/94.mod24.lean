/-! ===== the reference: carry ===== -/
def CrF (f f' : Int → Int) (D D2 : LaS) (pa pb : Int) (r : Int × Int × Int) : Prop := (f' (pa + 2) = min (lNe D : Int) r.2.1 ∧ f' (pa + 3) = prS D r.2.1 ∧ f' (pa + 4) = max 0 ((lNe D : Int) - r.2.1) ∧ f' (pa + 6) = r.1) ∧ (f' (pb + 2) = min (lNe D2 : Int) r.2.2 ∧ f' (pb + 3) = prS D2 r.2.2 ∧ f' (pb + 4) = max 0 ((lNe D2 : Int) - r.2.2) ∧ f' (pb + 6) = -r.1) ∧ ∀ z : Int, z ≠ pa + 2 → z ≠ pa + 3 → z ≠ pa + 4 → z ≠ pa + 6 → z ≠ pb + 2 → z ≠ pb + 3 → z ≠ pb + 4 → z ≠ pb + 6 → f' z = f z
set_option maxRecDepth 100000 in
set_option maxHeartbeats 4000000 in
theorem lp_X11_carry {k : WC} {d : Nat} {w : MC} {h0 : AH} {s : Int → Int} {A : MAs} {l : Int} {D : LaS} {E : LaY} {l2 : Int} {D2 : LaS} {E2 : LaY} {f : Int → Int} {pa pb ro b b2 : Int} (hd : 4 ≤ d) (hM : MlD A l D E) (hD : LOK D) (hE : YOK E) (hM2 : MlD A l2 D2 E2) (hD2 : LOK D2) (hE2 : YOK E2) (hpa0 : 0 ≤ pa) (hpab : pa + 6 < pb) (hpb : pb + 6 < 560) (hr0 : 0 ≤ ro) (hr1 : ro ≤ 99) (hc : Cx w k d 0 0 mdX11_carry) (he : Ends w 0 0 (pn fun h' => ∃ f' : Int → Int, h' (243, 0) = some (oI 560 f') ∧ CrF f f' D D2 pa pb (caS D D2 ro b b2) ∧ MdS h' s A ∧ Fr (fun z => z = (243, 0)) h0 h')) : ∀ (zm : Nat) (x y c : Int) (g : Int → Int) (h : AH), wyM D D2 ro x y = zm → 0 ≤ x → 0 ≤ y → x + y ≤ 90 → caS D D2 ro b b2 = (c + (caS D D2 ro x y).1, (caS D D2 ro x y).2) → g (pa + 6) = c → g (pb + 6) = -c → (∀ z : Int, z ≠ pa + 6 → z ≠ pb + 6 → g z = f z) → MdS h s A → h (243, 0) = some (oI 560 g) → Fr (fun z => z = (243, 0)) h0 h → J w 0 0 50 [some (vR (70, 0)), some (vI l), some (vI l2), some (vI pa), some (vI pb), some (vI ro), some (vI x), some (vI y), some (vI (wyS D D2 ro x y))] [] h := by
  intro zm
  induction zm using Nat.strongRecOn with
  | _ zm ih =>
    intro x y c g h hm hx0 hy0 hxy hca hg1 hg2 hg hS z43 hF
    rcases wyS_v D D2 ro x y with hw | hw | hw
    · rw [hw]
      obtain ⟨zy, zca⟩ := caS_p hD hD2 hr0 hx0 hw
      have zlt := wyM_p hr0 hw zy
      refine j_iload hc dX11_carry_50 rfl ?_
      refine j_if_eq (b := 0) (tgt := 115) hc dX11_carry_52 (by decide) ⟨by omega, by omega⟩ (fun zc1 => ?_) (fun zc1 => ?_)
      · exact absurd zc1 (by decide)
      · refine j_iload hc dX11_carry_55 rfl ?_
        refine j_iload hc dX11_carry_57 rfl ?_
        refine j_iadd hc dX11_carry_59 ?_
        refine j_istore (L' := [_, _, _, _, _, _, _, _, _]) hc dX11_carry_60 (Nat.le_of_ble_eq_true rfl) rfl ?_
        refine j_iload hc dX11_carry_62 rfl ?_
        refine j_iload hc dX11_carry_64 rfl ?_
        refine j_isub hc dX11_carry_66 ?_
        refine j_istore (L' := [_, _, _, _, _, _, _, _, _]) hc dX11_carry_67 (Nat.le_of_ble_eq_true rfl) rfl ?_
        refine j_aload_n hc dX11_carry_69 rfl ?_
        refine j_get hc dX11_carry_70 fX11_108 hS.1 rfl ?_
        refine j_iload_n hc dX11_carry_73 rfl ?_
        refine j_bipush hc dX11_carry_74 (by decide) ?_
        refine j_iadd hc dX11_carry_76 ?_
        refine j_dup2 hc dX11_carry_77 rfl rfl ?_
        refine j_iald hc dX11_carry_78 z43 (by omega) (by omega) ?_
        refine j_iload hc dX11_carry_79 rfl ?_
        refine j_isub hc dX11_carry_81 ?_
        refine j_iast hc dX11_carry_82 z43 (by omega) (by omega) ?_
        generalize ezh1 : up _ _ _ = zh1
        have zzmod_zh1 := MdS.mv ezh1 (by simp) hS
        have zM43_zh1 := (congrFun ezh1 _).symm.trans (up_same _ _ _)
        refine j_aload_n hc dX11_carry_83 rfl ?_
        refine j_get hc dX11_carry_84 fX11_108 zzmod_zh1.1 rfl ?_
        refine j_iload hc dX11_carry_87 rfl ?_
        refine j_bipush hc dX11_carry_89 (by decide) ?_
        refine j_iadd hc dX11_carry_91 ?_
        refine j_dup2 hc dX11_carry_92 rfl rfl ?_
        refine j_iald hc dX11_carry_93 zM43_zh1 (by omega) (by omega) ?_
        refine j_iload hc dX11_carry_94 rfl ?_
        refine j_iadd hc dX11_carry_96 ?_
        refine j_iast hc dX11_carry_97 zM43_zh1 (by omega) (by omega) ?_
        generalize ezh2 : up _ _ _ = zh2
        have zzmod_zh2 := MdS.mv ezh2 (by simp) zzmod_zh1
        have zM43_zh2 := (congrFun ezh2 _).symm.trans (up_same _ _ _)
        refine j_aload_n hc dX11_carry_98 rfl ?_
        refine j_iload_n hc dX11_carry_99 rfl ?_
        refine j_iload_n hc dX11_carry_100 rfl ?_
        refine j_iload hc dX11_carry_101 rfl ?_
        refine j_iload hc dX11_carry_103 rfl ?_
        refine j_iload hc dX11_carry_105 rfl ?_
        refine j_callV (d' := d - 1) hc dX11_carry_107 vX11_397 zzmod_zh2.1 (ev_X11_wayOf (by omega) zzmod_zh2 hM hD hE hM2 hD2 hE2 (by omega) (by omega) (by omega) (by omega) hr0 hr1) rfl (by omega) (by omega) (by omega) rfl rfl (Nat.le_of_ble_eq_true rfl) (ret1 ?_)
        refine j_istore (L' := [_, _, _, _, _, _, _, _, _]) hc dX11_carry_110 (Nat.le_of_ble_eq_true rfl) rfl ?_
        refine j_goto (tgt := 50) hc dX11_carry_112 (by decide) ?_
        exact ih _ (by omega) (x + 1) (y - 1) (c - 1) _ _ rfl (by omega) (by omega) (by omega) (by rw [hca, zca]; dsimp only; congr 1; omega) (by rw [fu_ne (by omega), fu_same, hg1]) (by rw [fu_same, fu_ne (by omega), hg2]; omega) (fun z q1 q2 => by rw [fu_ne q2, fu_ne q1]; exact hg z q1 q2) zzmod_zh2 zM43_zh2 (by rw [← ezh2, ← ezh1]; exact (hF.push rfl).push rfl)
    · rw [hw]
      obtain ⟨zy, zca⟩ := caS_m hw
      have zlt := wyM_m hr0 hw
      refine j_iload hc dX11_carry_50 rfl ?_
      refine j_if_eq (b := 0) (tgt := 115) hc dX11_carry_52 (by decide) ⟨by omega, by omega⟩ (fun zc1 => ?_) (fun zc1 => ?_)
      · exact absurd zc1 (by decide)
      · refine j_iload hc dX11_carry_55 rfl ?_
        refine j_iload hc dX11_carry_57 rfl ?_
        refine j_iadd hc dX11_carry_59 ?_
        refine j_istore (L' := [_, _, _, _, _, _, _, _, _]) hc dX11_carry_60 (Nat.le_of_ble_eq_true rfl) rfl ?_
        refine j_iload hc dX11_carry_62 rfl ?_
        refine j_iload hc dX11_carry_64 rfl ?_
        refine j_isub hc dX11_carry_66 ?_
        refine j_istore (L' := [_, _, _, _, _, _, _, _, _]) hc dX11_carry_67 (Nat.le_of_ble_eq_true rfl) rfl ?_
        refine j_aload_n hc dX11_carry_69 rfl ?_
        refine j_get hc dX11_carry_70 fX11_108 hS.1 rfl ?_
        refine j_iload_n hc dX11_carry_73 rfl ?_
        refine j_bipush hc dX11_carry_74 (by decide) ?_
        refine j_iadd hc dX11_carry_76 ?_
        refine j_dup2 hc dX11_carry_77 rfl rfl ?_
        refine j_iald hc dX11_carry_78 z43 (by omega) (by omega) ?_
        refine j_iload hc dX11_carry_79 rfl ?_
        refine j_isub hc dX11_carry_81 ?_
        refine j_iast hc dX11_carry_82 z43 (by omega) (by omega) ?_
        generalize ezh1 : up _ _ _ = zh1
        have zzmod_zh1 := MdS.mv ezh1 (by simp) hS
        have zM43_zh1 := (congrFun ezh1 _).symm.trans (up_same _ _ _)
        refine j_aload_n hc dX11_carry_83 rfl ?_
        refine j_get hc dX11_carry_84 fX11_108 zzmod_zh1.1 rfl ?_
        refine j_iload hc dX11_carry_87 rfl ?_
        refine j_bipush hc dX11_carry_89 (by decide) ?_
        refine j_iadd hc dX11_carry_91 ?_
        refine j_dup2 hc dX11_carry_92 rfl rfl ?_
        refine j_iald hc dX11_carry_93 zM43_zh1 (by omega) (by omega) ?_
        refine j_iload hc dX11_carry_94 rfl ?_
        refine j_iadd hc dX11_carry_96 ?_
        refine j_iast hc dX11_carry_97 zM43_zh1 (by omega) (by omega) ?_
        generalize ezh2 : up _ _ _ = zh2
        have zzmod_zh2 := MdS.mv ezh2 (by simp) zzmod_zh1
        have zM43_zh2 := (congrFun ezh2 _).symm.trans (up_same _ _ _)
        refine j_aload_n hc dX11_carry_98 rfl ?_
        refine j_iload_n hc dX11_carry_99 rfl ?_
        refine j_iload_n hc dX11_carry_100 rfl ?_
        refine j_iload hc dX11_carry_101 rfl ?_
        refine j_iload hc dX11_carry_103 rfl ?_
        refine j_iload hc dX11_carry_105 rfl ?_
        refine j_callV (d' := d - 1) hc dX11_carry_107 vX11_397 zzmod_zh2.1 (ev_X11_wayOf (by omega) zzmod_zh2 hM hD hE hM2 hD2 hE2 (by omega) (by omega) (by omega) (by omega) hr0 hr1) rfl (by omega) (by omega) (by omega) rfl rfl (Nat.le_of_ble_eq_true rfl) (ret1 ?_)
        refine j_istore (L' := [_, _, _, _, _, _, _, _, _]) hc dX11_carry_110 (Nat.le_of_ble_eq_true rfl) rfl ?_
        refine j_goto (tgt := 50) hc dX11_carry_112 (by decide) ?_
        rw [show x + -1 = x - 1 by omega, show y - -1 = y + 1 by omega]
        exact ih _ (by omega) (x - 1) (y + 1) (c + 1) _ _ rfl (by omega) (by omega) (by omega) (by rw [hca, zca]; dsimp only; congr 1; omega) (by rw [fu_ne (by omega), fu_same, hg1]; omega) (by rw [fu_same, fu_ne (by omega), hg2]; omega) (fun z q1 q2 => by rw [fu_ne q2, fu_ne q1]; exact hg z q1 q2) zzmod_zh2 zM43_zh2 (by rw [← ezh2, ← ezh1]; exact (hF.push rfl).push rfl)
    · rw [hw]
      refine j_iload hc dX11_carry_50 rfl ?_
      refine j_if_eq (b := 0) (tgt := 115) hc dX11_carry_52 (by decide) ⟨by omega, by omega⟩ (fun zc1 => ?_) (fun zc1 => ?_)
      · refine j_aload_n hc dX11_carry_115 rfl ?_
        refine j_iload_n hc dX11_carry_116 rfl ?_
        refine j_iload_n hc dX11_carry_117 rfl ?_
        refine j_iload hc dX11_carry_118 rfl ?_
        refine j_callV (d' := d - 1) hc dX11_carry_120 vX11_400 hS.1 (ev_X11_tellTown (by omega) hS hM hD hE z43 (by omega) (by omega) (by omega) (by omega)) rfl (by omega) (by omega) (by omega) rfl rfl (Nat.le_of_ble_eq_true rfl) (retN fun zq120 zp120 => ?_)
        obtain ⟨zX1, zF1⟩ := zp120
        have zS1 := MdS.fr (fun z hz => zF1 z (fun y => by rw [y] at hz; exact absurd hz (by decide))) hS
        refine j_aload_n hc dX11_carry_123 rfl ?_
        refine j_iload_n hc dX11_carry_124 rfl ?_
        refine j_iload hc dX11_carry_125 rfl ?_
        refine j_iload hc dX11_carry_127 rfl ?_
        refine j_callV (d' := d - 1) hc dX11_carry_129 vX11_400 zS1.1 (ev_X11_tellTown (by omega) zS1 hM2 hD2 hE2 zX1 (by omega) (by omega) (by omega) (by omega)) rfl (by omega) (by omega) (by omega) rfl rfl (Nat.le_of_ble_eq_true rfl) (retN fun zq129 zp129 => ?_)
        obtain ⟨zX2, zF2⟩ := zp129
        have zS2 := MdS.fr (fun z hz => zF2 z (fun y => by rw [y] at hz; exact absurd hz (by decide))) zS1
        exact j_vret hc he dX11_carry_132 rfl (by omega) (by omega) ⟨rfl, _, zX2, by rw [hca]; rw [caS_0 hw]; dsimp only; rw [Int.add_zero]; exact ⟨⟨by rw [fu_ne (by omega), fu_ne (by omega), fu_ne (by omega), fu_ne (by omega), fu_ne (by omega), fu_same], by rw [fu_ne (by omega), fu_ne (by omega), fu_ne (by omega), fu_ne (by omega), fu_same], by rw [fu_ne (by omega), fu_ne (by omega), fu_ne (by omega), fu_same], by rw [fu_ne (by omega), fu_ne (by omega), fu_ne (by omega), fu_ne (by omega), fu_ne (by omega), fu_ne (by omega), hg1]⟩, ⟨by rw [fu_ne (by omega), fu_ne (by omega), fu_same], by rw [fu_ne (by omega), fu_same], by rw [fu_same], by rw [fu_ne (by omega), fu_ne (by omega), fu_ne (by omega), fu_ne (by omega), fu_ne (by omega), fu_ne (by omega), hg2]⟩, fun z q1 q2 q3 q4 q5 q6 q7 q8 => (by rw [fu_ne q7, fu_ne q6, fu_ne q5, fu_ne q3, fu_ne q2, fu_ne q1]; exact hg z q4 q8)⟩, zS2, (hF.tr zF1).tr zF2⟩
      · exact absurd rfl zc1
set_option maxRecDepth 100000 in
set_option maxHeartbeats 4000000 in
theorem ev_X11_carry {k : WC} {d : Nat} {h : AH} {s : Int → Int} {A : MAs} {l : Int} {D : LaS} {E : LaY} {l2 : Int} {D2 : LaS} {E2 : LaY} {f : Int → Int} {pa pb ro am ke am2 ke2 : Int} (hd : 4 ≤ d) (hM : MlD A l D E) (hD : LOK D) (hE : YOK E) (hM2 : MlD A l2 D2 E2) (hD2 : LOK D2) (hE2 : YOK E2) (hpa0 : 0 ≤ pa) (hpab : pa + 6 < pb) (hpb : pb + 6 < 560) (hr0 : 0 ≤ ro) (hr1 : ro ≤ 99) (hfa0 : f pa = am) (hfa1 : f (pa + 1) = ke) (hfb0 : f pb = am2) (hfb1 : f (pb + 1) = ke2) (hfa6 : f (pa + 6) = 0) (hfb6 : f (pb + 6) = 0) (hb0 : 0 ≤ am - ke) (hb1 : am - ke ≤ 40) (hb20 : 0 ≤ am2 - ke2) (hb21 : am2 - ke2 ≤ 40) (hS : MdS h s A) (z43 : h (243, 0) = some (oI 560 f)) : Ev k d mdX11_carry h [vR (70, 0), vI l, vI l2, vI pa, vI pb, vI ro] 0 0 (pn fun h' => ∃ f' : Int → Int, h' (243, 0) = some (oI 560 f') ∧ CrF f f' D D2 pa pb (caS D D2 ro (am - ke) (am2 - ke2)) ∧ MdS h' s A ∧ Fr (fun z => z = (243, 0)) h h') := by
  refine Ev.mk (by decide +kernel) [_, _, _, _, _, _, _, _, _] rfl (Nat.le_of_ble_eq_true rfl) (fun w hc he => ?_)
  refine j_aload_n hc dX11_carry_0 rfl ?_
  refine j_get hc dX11_carry_1 fX11_108 hS.1 rfl ?_
  refine j_iload_n hc dX11_carry_4 rfl ?_
  refine j_iald hc dX11_carry_5 z43 (by omega) (by omega) ?_
  rw [hfa0]
  refine j_aload_n hc dX11_carry_6 rfl ?_
  refine j_get hc dX11_carry_7 fX11_108 hS.1 rfl ?_
  refine j_iload_n hc dX11_carry_10 rfl ?_
  refine j_iconst hc dX11_carry_11 ?_
  refine j_iadd hc dX11_carry_12 ?_
  refine j_iald hc dX11_carry_13 z43 (by omega) (by omega) ?_
  rw [hfa1]
  refine j_isub hc dX11_carry_14 ?_
  refine j_istore (L' := [_, _, _, _, _, _, _, _, _]) hc dX11_carry_15 (Nat.le_of_ble_eq_true rfl) rfl ?_
  refine j_aload_n hc dX11_carry_17 rfl ?_
  refine j_get hc dX11_carry_18 fX11_108 hS.1 rfl ?_
  refine j_iload hc dX11_carry_21 rfl ?_
  refine j_iald hc dX11_carry_23 z43 (by omega) (by omega) ?_
  rw [hfb0]
  refine j_aload_n hc dX11_carry_24 rfl ?_
  refine j_get hc dX11_carry_25 fX11_108 hS.1 rfl ?_
  refine j_iload hc dX11_carry_28 rfl ?_
  refine j_iconst hc dX11_carry_30 ?_
  refine j_iadd hc dX11_carry_31 ?_
  refine j_iald hc dX11_carry_32 z43 (by omega) (by omega) ?_
  rw [hfb1]
  refine j_isub hc dX11_carry_33 ?_
  refine j_istore (L' := [_, _, _, _, _, _, _, _, _]) hc dX11_carry_34 (Nat.le_of_ble_eq_true rfl) rfl ?_
  refine j_aload_n hc dX11_carry_36 rfl ?_
  refine j_iload_n hc dX11_carry_37 rfl ?_
  refine j_iload_n hc dX11_carry_38 rfl ?_
  refine j_iload hc dX11_carry_39 rfl ?_
  refine j_iload hc dX11_carry_41 rfl ?_
  refine j_iload hc dX11_carry_43 rfl ?_
  refine j_callV (d' := d - 1) hc dX11_carry_45 vX11_397 hS.1 (ev_X11_wayOf (by omega) hS hM hD hE hM2 hD2 hE2 (by omega) (by omega) (by omega) (by omega) hr0 hr1) rfl (by omega) (by omega) (by omega) rfl rfl (Nat.le_of_ble_eq_true rfl) (ret1 ?_)
  refine j_istore (L' := [_, _, _, _, _, _, _, _, _]) hc dX11_carry_48 (Nat.le_of_ble_eq_true rfl) rfl ?_
  exact lp_X11_carry (b := am - ke) (b2 := am2 - ke2) hd hM hD hE hM2 hD2 hE2 hpa0 hpab hpb hr0 hr1 hc he _ (am - ke) (am2 - ke2) 0 f h rfl (by omega) (by omega) (by omega) (by rw [Int.zero_add]) hfa6 (by rw [hfb6]; rfl) (fun z _ _ => rfl) hS z43 (Fr.rf _ _)
