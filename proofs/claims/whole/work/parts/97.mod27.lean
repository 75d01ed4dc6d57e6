/-! ===== the reference: towns ===== -/
theorem BOK.st {S : BaS} {c : Int → Int} {t m p : Int} (h : BOK S) (t0 : 0 ≤ t) (t2 : t ≤ 2) (m0 : 0 ≤ m) (m40 : m ≤ 40) : BOK (sSt S c t m p) := by
  obtain ⟨a1, a2, a3, a4, a5, a6, -, -⟩ := h
  exact ⟨a1, a2, a3, a4, a5, a6, ⟨t0, t2⟩, m0, m40⟩
set_option maxRecDepth 100000 in
set_option maxHeartbeats 4000000 in
theorem ev_X11_towns_a {k : WC} {d : Nat} {h : AH} {S : BaS} {th : Int} {l l2 sr n b b2 ro : Int} (hd : 240 ≤ d) (hMo : ModAt h S th) (hil : inI l) (him : inI l2) (hir : inI sr) (hin : inI n) (hib : inI b) (hib2 : inI b2) (hiro : inI ro) (hK' : BOK (nTow S l l2 sr n b b2 ro)) : Ev k d mdX11_towns h [vR (70, 0), vI l, vI l2, vI sr, vI n, vI b, vI b2, vI ro] 0 0 (pe fun v h' => v = vI (if twV S l l2 sr n b b2 ro then miR S else -1) ∧ ModAt h' (nTow S l l2 sr n b b2 ro) th ∧ Fr isMo h h') := by
  obtain ⟨s, A, hS, hR, hB, hX, hK⟩ := id hMo
  obtain ⟨m0, m2, m22, m27, m44, m45, m46, mTp, mLd, mRu, mRw, mFr⟩ := id hR
  obtain ⟨⟨kTa, kTb⟩, ⟨kL0, kL1⟩, ⟨kR0, kR1⟩, kLd, kRu, kRw, ⟨kT0, kT1⟩, kS0, kS1⟩ := id hK
  obtain ⟨⟨f39, z39⟩, ⟨f40, z40⟩, ⟨f43, z43, zrn⟩, f47, z47⟩ := id hX
  refine Ev.mk (by decide +kernel) [_, _, _, _, _, _, _, _, _, _, _, _, _] rfl (Nat.le_of_ble_eq_true rfl) (fun w hc he => ?_)
  refine j_aload_n hc dX11_towns_0 rfl ?_
  refine j_iload_n hc dX11_towns_1 rfl ?_
  refine j_iload_n hc dX11_towns_2 rfl ?_
  refine j_iload hc dX11_towns_3 rfl ?_
  refine j_iload hc dX11_towns_5 rfl ?_
  refine j_callV (d' := d - 1) hc dX11_towns_7 vX11_377 hS.1 (ev_X11_mayRun (by omega) hS hR hK hil hir hin hib) rfl (by omega) (by omega) (by omega) rfl rfl (Nat.le_of_ble_eq_true rfl) (ret1 ?_)
  refine j_if_eq (b := 0) (tgt := 62) hc dX11_towns_10 (by decide) (by split <;> exact ⟨by omega, by omega⟩) (fun zc1 => ?_) (fun zc1 => ?_)
  · have zw5 := one_neg zc1
    refine j_iconst hc dX11_towns_62 ?_
    exact j_iret hc he dX11_towns_63 rfl (by omega) (by omega) ⟨_, rfl, by rw [if_neg (by omega)], by unfold nTow; rw [if_neg (by omega)]; exact hMo, Fr.rf _ _⟩
  · have zwa := one_pos zc1
    refine j_aload_n hc dX11_towns_13 rfl ?_
    refine j_iload_n hc dX11_towns_14 rfl ?_
    refine j_iload_n hc dX11_towns_15 rfl ?_
    refine j_iload hc dX11_towns_16 rfl ?_
    refine j_iload hc dX11_towns_18 rfl ?_
    refine j_callV (d' := d - 1) hc dX11_towns_20 vX11_377 hS.1 (ev_X11_mayRun (by omega) hS hR hK him hir hin hib2) rfl (by omega) (by omega) (by omega) rfl rfl (Nat.le_of_ble_eq_true rfl) (ret1 ?_)
    refine j_if_eq (b := 0) (tgt := 62) hc dX11_towns_23 (by decide) (by split <;> exact ⟨by omega, by omega⟩) (fun zc2 => ?_) (fun zc2 => ?_)
    · have zw5 := one_neg zc2
      refine j_iconst hc dX11_towns_62 ?_
      exact j_iret hc he dX11_towns_63 rfl (by omega) (by omega) ⟨_, rfl, by rw [if_neg (by omega)], by unfold nTow; rw [if_neg (by omega)]; exact hMo, Fr.rf _ _⟩
    · have zwb := one_pos zc2
      have zw1 := zwa.1.1
      have zw2 := zwb.1.1
      obtain ⟨⟨n1, n12⟩, k0, k4⟩ := zwa.1.2
      obtain ⟨b0, b20⟩ := zwa.2
      obtain ⟨c0, c20⟩ := zwb.2
      obtain ⟨hD, hE, hrn, hyo⟩ := kLd l zw1.1 zw1.2
      have hM := mLd l zw1.1 zw1.2
      obtain ⟨⟨zl0, zl1⟩, mSe, mNe, mPa, mCo, mMi, mRo, mLa, mRn, mHv, mBu, mSl, mGr, mTb⟩ := id hM
      obtain ⟨d1, d2, d3, d4, d5, d6, d7, d8, d9, d10, d11, d12, d13⟩ := id hD
      obtain ⟨y1, y2, y3, y4, y5, y6, y7, y8, y9, y10⟩ := id hE
      have hW := fun k => ru_of (k := k) (l := l) hR hK zw1
      have hWb := fun k => ru_of (k := k) (l := l) (MoR.s37 (l := l) (c := lCo (bD S l)) hR) hK zw1
      obtain ⟨hD2, hE2, hrn2, hyo2⟩ := kLd l2 zw2.1 zw2.2
      have hM2 := mLd l2 zw2.1 zw2.2
      have mSe2 := hM2.2.1
      have zl2a := hM2.1.1
      have zl2b := hM2.1.2
      have e1 := hD2.1
      have e2 := hD2.2.1
      refine j_iload_n hc dX11_towns_26 rfl ?_
      refine j_iload_n hc dX11_towns_27 rfl ?_
      refine j_icmp_eq (tgt := 62) hc dX11_towns_28 (by decide) hil him (fun zc3 => ?_) (fun zc3 => ?_)
      · refine j_iconst hc dX11_towns_62 ?_
        exact j_iret hc he dX11_towns_63 rfl (by omega) (by omega) ⟨_, rfl, by rw [if_neg (by omega)], by unfold nTow; rw [if_neg (by omega)]; exact hMo, Fr.rf _ _⟩
      · have zne : l ≠ l2 := zc3
        refine j_aload_n hc dX11_towns_31 rfl ?_
        refine j_get hc dX11_towns_32 fX11_13 hS.1 rfl ?_
        refine j_iload_n hc dX11_towns_35 rfl ?_
        refine j_iald hc dX11_towns_36 hS.2.2.1 (by omega) (by omega) ?_
        rw [mSe]
        refine j_aload_n hc dX11_towns_37 rfl ?_
        refine j_get hc dX11_towns_38 fX11_13 hS.1 rfl ?_
        refine j_iload_n hc dX11_towns_41 rfl ?_
        refine j_iald hc dX11_towns_42 hS.2.2.1 (by omega) (by omega) ?_
        rw [mSe2]
        refine j_icmp_ne (tgt := 62) hc dX11_towns_43 (by decide) ⟨by omega, by omega⟩ ⟨by omega, by omega⟩ (fun zc4 => ?_) (fun zc4 => ?_)
        · refine j_iconst hc dX11_towns_62 ?_
          exact j_iret hc he dX11_towns_63 rfl (by omega) (by omega) ⟨_, rfl, by rw [if_neg (by omega)], by unfold nTow; rw [if_neg (by omega)]; exact hMo, Fr.rf _ _⟩
        · have zse2 : lSe (bD S l) = lSe (bD S l2) := by omega
          refine j_iload_n hc dX11_towns_46 rfl ?_
          refine j_iconst hc dX11_towns_47 ?_
          refine j_icmp_eq (tgt := 62) hc dX11_towns_48 (by decide) hir ⟨by omega, by omega⟩ (fun zc5 => ?_) (fun zc5 => ?_)
          · refine j_iconst hc dX11_towns_62 ?_
            exact j_iret hc he dX11_towns_63 rfl (by omega) (by omega) ⟨_, rfl, by rw [if_neg (by omega)], by unfold nTow; rw [if_neg (by omega)]; exact hMo, Fr.rf _ _⟩
          · have zn3 : sr ≠ 3 := zc5
            refine j_iload hc dX11_towns_51 rfl ?_
            refine j_iconst hc dX11_towns_53 ?_
            refine j_bipush hc dX11_towns_54 (by decide) ?_
            refine j_callS (d' := d - 1) hc dX11_towns_56 sX11_145 (ev_X11_in (by omega) hiro ⟨by omega, by omega⟩ ⟨by omega, by omega⟩) rfl (by omega) (by omega) (by omega) rfl rfl (Nat.le_of_ble_eq_true rfl) (ret1 ?_)
            refine j_if_ne (b := 0) (tgt := 64) hc dX11_towns_59 (by decide) (by split <;> exact ⟨by omega, by omega⟩) (fun zc6 => ?_) (fun zc6 => ?_)
            · have zro := one_pos zc6
              obtain ⟨zq10, zq20⟩ := mRw 0 (by omega) (by omega)
              obtain ⟨zq30, zq40, zq50⟩ := kRw 0 (by omega) (by omega)
              have zrw0 : ∀ x : Int, 0 ≤ x → x < 40 → A 41 (40 * 0 + x) = bRw S 0 x ∧ 0 ≤ bRw S 0 x ∧ bRw S 0 x ≤ 20 := fun x x0 x1 => ⟨zq20 x x0 x1, zq50 x x0 x1⟩
              obtain ⟨zq11, zq21⟩ := mRw 1 (by omega) (by omega)
              obtain ⟨zq31, zq41, zq51⟩ := kRw 1 (by omega) (by omega)
              have zrw1 : ∀ x : Int, 0 ≤ x → x < 40 → A 41 (40 * 1 + x) = bRw S 1 x ∧ 0 ≤ bRw S 1 x ∧ bRw S 1 x ≤ 20 := fun x x0 x1 => ⟨zq21 x x0 x1, zq51 x x0 x1⟩
              have zmr : miR S = min (bRl S 0) (bRl S 1) := rfl
              obtain ⟨m, hm⟩ : ∃ m : Nat, miR S = m := ⟨(miR S).toNat, by omega⟩
              have zV : twV S l l2 sr n b b2 ro := ⟨⟨zwa.1, zwb.1⟩, zne, zn3, zse2, zro, zwa.2, zwb.2⟩
              refine j_aload_n hc dX11_towns_64 rfl ?_
              refine j_iconst hc dX11_towns_65 ?_
              refine j_put  hc dX11_towns_66 pX11_383 hS.1 rfl mset_44 ?_
              generalize ezh1 : up _ _ _ = zh1
              have zzmod_zh1 := MdS.pf ezh1 hS
              have zzmob_zh1 := MoB.mv ezh1 (by simp) hB
              have zM43_zh1 := (congrFun ezh1 _).symm.trans ((up_ne (by simp)).trans z43)
              refine j_aload_n hc dX11_towns_69 rfl ?_
              refine j_aload_n hc dX11_towns_70 rfl ?_
              refine j_get hc dX11_towns_71 fX11_105 zzmod_zh1.1 rfl ?_
              refine j_iconst hc dX11_towns_74 ?_
              refine j_iald hc dX11_towns_75 zzmod_zh1.2.2.2.2.2.2.2.2.2.2.2.2.2.2.2.2.2.2.2.2.2.2.2 (by omega) (by omega) ?_
              rw [zq10]
              refine j_aload_n hc dX11_towns_76 rfl ?_
              refine j_get hc dX11_towns_77 fX11_105 zzmod_zh1.1 rfl ?_
              refine j_iconst hc dX11_towns_80 ?_
              refine j_iald hc dX11_towns_81 zzmod_zh1.2.2.2.2.2.2.2.2.2.2.2.2.2.2.2.2.2.2.2.2.2.2.2 (by omega) (by omega) ?_
              rw [zq11]
              refine j_mmin hc dX11_towns_82 mX11_169 mo_min ⟨by omega, by omega⟩ ⟨by omega, by omega⟩ (by omega) (by omega) rfl (by omega) (Nat.le_of_ble_eq_true rfl) ?_
              rw [← zmr, hm]
              refine j_put  hc dX11_towns_85 pX11_386 zzmod_zh1.1 rfl mset_45 ?_
              generalize ezh2 : up _ _ _ = zh2
              have zzmod_zh2 := MdS.pf ezh2 zzmod_zh1
              have zzmob_zh2 := MoB.mv ezh2 (by simp) zzmob_zh1
              have zM43_zh2 := (congrFun ezh2 _).symm.trans ((up_ne (by simp)).trans zM43_zh1)
              refine j_aload_n hc dX11_towns_88 rfl ?_
              refine j_iconst hc dX11_towns_89 ?_
              refine j_put  hc dX11_towns_90 pX11_389 zzmod_zh2.1 rfl mset_46 ?_
              generalize ezh3 : up _ _ _ = zh3
              have zzmod_zh3 := MdS.pf ezh3 zzmod_zh2
              have zzmob_zh3 := MoB.mv ezh3 (by simp) zzmob_zh2
              have zM43_zh3 := (congrFun ezh3 _).symm.trans ((up_ne (by simp)).trans zM43_zh2)
              refine j_iconst hc dX11_towns_93 ?_
              refine j_istore (L' := [_, _, _, _, _, _, _, _, _, _, _, _, _]) hc dX11_towns_94 (Nat.le_of_ble_eq_true rfl) rfl ?_
              have zFA : Fr isTr h zh3 := (by rw [← ezh3, ← ezh2, ← ezh1]; exact (((Fr.rf _ _).push (Or.inl (Or.inl rfl))).push (Or.inl (Or.inl rfl))).push (Or.inl (Or.inl rfl)))
              refine j_iload hc dX11_towns_96 rfl ?_
              refine j_iconst hc dX11_towns_98 ?_
              refine j_icmp_ge (tgt := 238) hc dX11_towns_99 (by decide) ⟨by omega, by omega⟩ ⟨by omega, by omega⟩ (fun zc30 => ?_) (fun zc30 => ?_)
              · exact absurd zc30 (by decide)
              · refine j_aload_n hc dX11_towns_102 rfl ?_
                refine j_iload hc dX11_towns_103 rfl ?_
                refine j_if_ne (b := 0) (tgt := 112) hc dX11_towns_105 (by decide) ⟨by omega, by omega⟩ (fun zc31 => ?_) (fun zc31 => ?_)
                · exact absurd rfl zc31
                · refine j_iload_n hc dX11_towns_108 rfl ?_
                  refine j_goto (tgt := 113) hc dX11_towns_109 (by decide) ?_
                  refine j_callV (d' := d - 1) hc dX11_towns_113 vX11_348 zzmod_zh3.1 (ev_X11_begin (ru := ruC S l) (by omega) zzmod_zh3 hM hD hE zzmob_zh3) rfl (by omega) (by omega) (by omega) rfl rfl (Nat.le_of_ble_eq_true rfl) (retN fun zq113 zp113 => ?_)
                  obtain ⟨zbS0, zbA0, zbF0⟩ := zp113
                  have zbM0 := zbA0 (lCo (bD S l))
                  have zb430 := (zbF0 _ (by decide)).trans zM43_zh3
                  refine j_iload hc dX11_towns_116 rfl ?_
                  refine j_if_ne (b := 0) (tgt := 126) hc dX11_towns_118 (by decide) ⟨by omega, by omega⟩ (fun zc32 => ?_) (fun zc32 => ?_)
                  · exact absurd rfl zc32
                  · refine j_iload hc dX11_towns_121 rfl ?_
                    refine j_goto (tgt := 128) hc dX11_towns_123 (by decide) ?_
                    refine j_istore (L' := [_, _, _, _, _, _, _, _, _, _, _, _, _]) hc dX11_towns_128 (Nat.le_of_ble_eq_true rfl) rfl ?_
                    refine j_iconst hc dX11_towns_130 ?_
                    refine j_istore (L' := [_, _, _, _, _, _, _, _, _, _, _, _, _]) hc dX11_towns_131 (Nat.le_of_ble_eq_true rfl) rfl ?_
                    refine lp_X11_towns1 (s := (fu (fu (fu (fu (fu s 44 2) 45 m) 46 0) 37 l) 38 (lCo (bD S l)))) (wv := 0) (bb := b) (rf := bRw S 0) (f0 := f43) (m := m) (by omega) (fun k => ru_of (k := k) (l := l) (S := sSt S (bCe S) 2 m 0) (show MoR (fu (fu (fu (fu (fu s 44 2) 45 m) 46 0) 37 l) 38 (lCo (bD S l))) A (sSt S (bCe S) 2 m 0) th from ⟨m0, m2, m22, m27, rfl, rfl, rfl, mTp, mLd, mRu, mRw, mFr⟩) (BOK.st hK (by omega) (by omega) (by omega) (by omega)) zw1) hM hD hE d3 d4 rfl rfl rfl k0 k4 n1 n12 (Or.inl rfl) b0 b20 (by omega) zrw0 hc (fun le1 z111 z112 f1 h1 zp1 zz1 zS1 zM1 z431 zF1 => ?_) _ 0 b _ _ f43 _ rfl (by omega) rfl (fun j hj => by omega) (fun z hz => rfl) zbS0 zbM0 zb430 (Fr.rf _ _)
                    refine j_iinc (L' := [_, _, _, _, _, _, _, _, _, _, _, _, _]) hc dX11_towns_232 rfl (Nat.le_of_ble_eq_true rfl) rfl ?_
                    refine j_goto (tgt := 96) hc dX11_towns_235 (by decide) ?_
                    rw [show (0 : Int) + 1 = 1 from rfl]
                    refine j_iload hc dX11_towns_96 rfl ?_
                    refine j_iconst hc dX11_towns_98 ?_
                    refine j_icmp_ge (tgt := 238) hc dX11_towns_99 (by decide) ⟨by omega, by omega⟩ ⟨by omega, by omega⟩ (fun zc30 => ?_) (fun zc30 => ?_)
                    · exact absurd zc30 (by decide)
                    · refine j_aload_n hc dX11_towns_102 rfl ?_
                      refine j_iload hc dX11_towns_103 rfl ?_
                      refine j_if_ne (b := 0) (tgt := 112) hc dX11_towns_105 (by decide) ⟨by omega, by omega⟩ (fun zc31 => ?_) (fun zc31 => ?_)
                      · refine j_iload_n hc dX11_towns_112 rfl ?_
                        refine j_callV (d' := d - 1) hc dX11_towns_113 vX11_348 zS1.1 (ev_X11_begin (ru := ruC S l2) (by omega) zS1 hM2 hD2 hE2 zM1.b) rfl (by omega) (by omega) (by omega) rfl rfl (Nat.le_of_ble_eq_true rfl) (retN fun zq113 zp113 => ?_)
                        obtain ⟨zbS1, zbA1, zbF1⟩ := zp113
                        have zbM1 := zbA1 (lCo (bD S l2))
                        have zb431 := (zbF1 _ (by decide)).trans z431
                        refine j_iload hc dX11_towns_116 rfl ?_
                        refine j_if_ne (b := 0) (tgt := 126) hc dX11_towns_118 (by decide) ⟨by omega, by omega⟩ (fun zc32 => ?_) (fun zc32 => ?_)
                        · refine j_iload hc dX11_towns_126 rfl ?_
                          refine j_istore (L' := [_, _, _, _, _, _, _, _, _, _, _, _, _]) hc dX11_towns_128 (Nat.le_of_ble_eq_true rfl) rfl ?_
                          refine j_iconst hc dX11_towns_130 ?_
                          refine j_istore (L' := [_, _, _, _, _, _, _, _, _, _, _, _, _]) hc dX11_towns_131 (Nat.le_of_ble_eq_true rfl) rfl ?_
                          refine lp_X11_towns1 (s := (fu (fu (fu (fu (fu (fu (fu s 44 2) 45 m) 46 0) 37 l) 38 (lCo (bD S l))) 37 l2) 38 (lCo (bD S l2)))) (wv := 1) (bb := b2) (rf := bRw S 1) (f0 := f1) (m := m) (by omega) (fun k => ru_of (k := k) (l := l2) (S := sSt S (bCe S) 2 m 0) (show MoR (fu (fu (fu (fu (fu (fu (fu s 44 2) 45 m) 46 0) 37 l) 38 (lCo (bD S l))) 37 l2) 38 (lCo (bD S l2))) A (sSt S (bCe S) 2 m 0) th from ⟨m0, m2, m22, m27, rfl, rfl, rfl, mTp, mLd, mRu, mRw, mFr⟩) (BOK.st hK (by omega) (by omega) (by omega) (by omega)) zw2) hM2 hD2 hE2 hD2.2.2.1 hD2.2.2.2.1 rfl rfl rfl k0 k4 n1 n12 (Or.inr rfl) c0 c20 (by omega) zrw1 hc (fun le2 z211 z212 f2 h2 zp2 zz2 zS2 zM2 z432 zF2 => ?_) _ 0 b2 _ _ f1 _ rfl (by omega) rfl (fun j hj => by omega) (fun z hz => rfl) zbS1 zbM1 zb431 (Fr.rf _ _)
                          refine j_iinc (L' := [_, _, _, _, _, _, _, _, _, _, _, _, _]) hc dX11_towns_232 rfl (Nat.le_of_ble_eq_true rfl) rfl ?_
                          refine j_goto (tgt := 96) hc dX11_towns_235 (by decide) ?_
                          rw [show (1 : Int) + 1 = 2 from rfl]
                          have zFF : Fr isTr h h2 := (zFA.tr ((zbF0.mono fun z zz => Or.inl zz).tr zF1)).tr ((zbF1.mono fun z zz => Or.inl zz).tr zF2)
                          refine j_iload hc dX11_towns_96 rfl ?_
                          refine j_iconst hc dX11_towns_98 ?_
                          refine j_icmp_ge (tgt := 238) hc dX11_towns_99 (by decide) ⟨by omega, by omega⟩ ⟨by omega, by omega⟩ (fun zc30 => ?_) (fun zc30 => ?_)
                          · refine j_iconst hc dX11_towns_238 ?_
                            refine j_istore (L' := [_, _, _, _, _, _, _, _, _, _, _, _, _]) hc dX11_towns_239 (Nat.le_of_ble_eq_true rfl) rfl ?_
                            refine lp_X11_towns2 (b := b) (b2 := b2) (rf := bRw S 0) (rf2 := bRw S 1) (kq := (fun s a => kpS (bD S l) (bE S l) (ruC S l) (lCo (bD S l)) sr n s a)) (kq2 := (fun s a => kpS (bD S l2) (bE S l2) (ruC S l2) (lCo (bD S l2)) sr n s a)) (fc := bCe S) (m := m) (by omega) hM hD hE hM2 hD2 hE2 zse2 zn3 rfl (by omega) zro.1 zro.2 (kqP hD hE n1) (kqP hD2 hE2 n1) b0 b20 c0 c20 zq50 zq51 hc (he.mono fun r h' zp => ?_) _ 0 _ _ _ _ f2 h2 rfl (by omega) (fun j hj => by omega) (fun j _ hj => ⟨(zp1 j hj).same fun z z0 z1 => zz2 z (by omega), zp2 j hj⟩) zS2 z432 (Fr.rf _ _)
                            obtain ⟨v, zr, zv, f, y1, y2, y3, y4⟩ := zp
                            have zN : nTow S l l2 sr n b b2 ro = sSt S (twS S l l2 sr n b b2 ro).1 2 (miR S) 0 := if_pos zV
                            refine ⟨v, zr, by rw [zv, if_pos zV, hm], ?_, ?_⟩
                            · rw [zN] at hK' ⊢
                              refine ⟨_, A, y3, ⟨m0, m2, m22, m27, rfl, hm.symm, rfl, mTp, mLd, mRu, mRw, mFr⟩, MoB.fq (fun z hz => y4 z (fun y => by rw [y] at hz; exact absurd hz (by decide))) zM2.b, ⟨⟨f39, (y4 _ (by decide)).trans ((zFF _ (by decide)).trans z39)⟩, ⟨f40, (y4 _ (by decide)).trans ((zFF _ (by decide)).trans z40)⟩, ⟨f, y1, fun t i x t0 t1 i0 i1 x0 x1 => ?_⟩, _, (y4 _ (by decide)).trans ((zFF _ (by decide)).trans z47)⟩, hK'⟩
                              have t1' : t < 2 := t1
                              have i1' : i < miR S := i1
                              obtain ⟨i, rfl⟩ : ∃ z : Nat, i = z := ⟨i.toNat, by omega⟩
                              obtain ⟨w1, w2⟩ := y2 i (by omega) x x0 x1
                              show _ = (tyN _ _ _ _ _ _ _ _ _ _ _ _ (miR S).toNat).1 _
                              rw [hm, Int.toNat_natCast]
                              rcases (by omega : t = 0 ∨ t = 1) with rfl | rfl
                              · rw [show 7 * (40 * 0 + (i : Int)) + x = 7 * (i : Int) + x by omega]
                                exact w1
                              · rw [show 7 * (40 * 1 + (i : Int)) + x = 7 * (40 + (i : Int)) + x by omega]
                                exact w2
                            · exact (zFF.mono fun z zz => isTr_mo zz).tr (y4.mono fun z zz => by rw [zz]; exact Or.inr (by decide))
                          · exact absurd zc30 (by decide)
                        · exact absurd zc32 (by decide)
                      · exact absurd zc31 (by decide)
            · have zw5 := one_neg zc6
              refine j_iconst hc dX11_towns_62 ?_
              exact j_iret hc he dX11_towns_63 rfl (by omega) (by omega) ⟨_, rfl, by rw [if_neg (by omega)], by unfold nTow; rw [if_neg (by omega)]; exact hMo, Fr.rf _ _⟩
