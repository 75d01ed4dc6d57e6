/-! ===== the reference: kept ===== -/
set_option maxRecDepth 100000 in
set_option maxHeartbeats 4000000 in
theorem ev_X11_byRule {k : WC} {s : Int → Int} {A : MAs} {l : Int} {D : LaS} {E : LaY} {ru : RU} {cs : Int} {d : Nat} {h : AH} {n q a : Int} {kp ke se be : Int → Int} (hd : 20 ≤ d) (hW : RuC k s A E ru) (hS : MdS h s A) (hM : MlD A l D E) (hD : LOK D) (hE : YOK E) (hl : s 37 = l) (hcs : s 38 = cs) (hcs0 : 0 ≤ cs) (hcs1 : cs ≤ 30) (hX : MmX h D E ru cs kp ke se be) (hn1 : 2 ≤ n) (hn : n ≤ 12) (hs0 : 0 ≤ q) (hs1 : q < lSe D) (ha0 : 0 ≤ a) (ha1 : a ≤ 40) : Ev k d mdX11_byRule h [vR (70, 0), vI n, vI q, vI a] 0 0 (KvPo D E ru cs (vI (kuS D E ru n q a)) h) := by
  obtain ⟨⟨zl0, zl1⟩, mSe, mNe, mPa, mCo, mMi, mRo, mLa, mRn, mHv, mBu, mSl, mGr, mTb⟩ := id hM
  obtain ⟨d1, d2, d3, d4, d5, d6, d7, d8, d9, d10, d11, d12, d13⟩ := id hD
  obtain ⟨y1, y2, y3, y4, y5, y6, y7, y8, y9, y10⟩ := id hE
  have zmo := moS_b hD hE
  have zpr := prS_lo hD a
  obtain ⟨pf, zpf⟩ := hX.2.2.2.2.1
  rcases hW with ⟨zr, zru⟩ | ⟨zr, zq, zru, zcf, zWo⟩
  · refine Ev.mk (by decide +kernel) [_, _, _, _] rfl (Nat.le_of_ble_eq_true rfl) (fun w hc he => ?_)
    refine j_aload_n hc dX11_byRule_0 rfl ?_
    refine j_get hc dX11_byRule_1 fX11_46 hS.1 rfl ?_
    refine j_aload_n hc dX11_byRule_4 rfl ?_
    refine j_get hc dX11_byRule_5 fX11_278 hS.1 rfl ?_
    rw [hl]
    refine j_iald hc dX11_byRule_8 hS.2.2.2.2.2.2.2.2.2.2.2.2.2.1 (by omega) (by omega) ?_
    rw [mRn]
    refine j_iconst hc dX11_byRule_9 ?_
    refine j_icmp_ne (tgt := 15) hc dX11_byRule_10 (by decide) ⟨by omega, by omega⟩ ⟨by omega, by omega⟩ (fun zc1 => ?_) (fun zc1 => ?_)
    · exact absurd zr zc1
    · refine j_iconst hc dX11_byRule_13 ?_
      exact j_iret hc he dX11_byRule_14 rfl (by omega) (by omega) ⟨_, rfl, by unfold kuS; rw [if_pos (by omega), zru], ⟨_, _, _, _, hX⟩, Fr.rf _ _⟩
  · refine Ev.mk (by decide +kernel) [_, _, _, _] rfl (Nat.le_of_ble_eq_true rfl) (fun w hc he => ?_)
    refine j_aload_n hc dX11_byRule_0 rfl ?_
    refine j_get hc dX11_byRule_1 fX11_46 hS.1 rfl ?_
    refine j_aload_n hc dX11_byRule_4 rfl ?_
    refine j_get hc dX11_byRule_5 fX11_278 hS.1 rfl ?_
    rw [hl]
    refine j_iald hc dX11_byRule_8 hS.2.2.2.2.2.2.2.2.2.2.2.2.2.1 (by omega) (by omega) ?_
    rw [mRn]
    refine j_iconst hc dX11_byRule_9 ?_
    refine j_icmp_ne (tgt := 15) hc dX11_byRule_10 (by decide) ⟨by omega, by omega⟩ ⟨by omega, by omega⟩ (fun zc1 => ?_) (fun zc1 => ?_)
    · refine j_iconst hc dX11_byRule_15 ?_
      refine j_aload_n hc dX11_byRule_16 rfl ?_
      refine j_iload_n hc dX11_byRule_17 rfl ?_
      refine j_callV (d' := d - 1) hc dX11_byRule_18 vX11_307 hS.1 (ev_X11_may (by omega) hS hM hD hE hl ⟨by omega, by omega⟩) rfl (by omega) (by omega) (by omega) rfl rfl (Nat.le_of_ble_eq_true rfl) (ret1 ?_)
      refine j_aload_n hc dX11_byRule_21 rfl ?_
      refine j_aload_n hc dX11_byRule_22 rfl ?_
      refine j_get hc dX11_byRule_23 fX11_46 hS.1 rfl ?_
      refine j_aload_n hc dX11_byRule_26 rfl ?_
      refine j_get hc dX11_byRule_27 fX11_278 hS.1 rfl ?_
      rw [hl]
      refine j_iald hc dX11_byRule_30 hS.2.2.2.2.2.2.2.2.2.2.2.2.2.1 (by omega) (by omega) ?_
      rw [mRn]
      refine j_iload_n hc dX11_byRule_31 rfl ?_
      refine j_iload_n hc dX11_byRule_32 rfl ?_
      refine j_iload_n hc dX11_byRule_33 rfl ?_
      refine j_aload_n hc dX11_byRule_34 rfl ?_
      refine j_aload_n hc dX11_byRule_35 rfl ?_
      refine j_get hc dX11_byRule_36 fX11_278 hS.1 rfl ?_
      rw [hl]
      refine j_iload_n hc dX11_byRule_39 rfl ?_
      refine j_callV (d' := d - 1) hc dX11_byRule_40 vX11_269 hS.1 (ev_X11_priceAt (by omega) hS hM hD hE (by omega) (by omega)) rfl (by omega) (by omega) (by omega) rfl rfl (Nat.le_of_ble_eq_true rfl) (ret1 ?_)
      refine j_aload_n hc dX11_byRule_43 rfl ?_
      refine j_iload_n hc dX11_byRule_44 rfl ?_
      refine j_callV (d' := d - 1) hc dX11_byRule_45 vX11_307 hS.1 (ev_X11_may (by omega) hS hM hD hE hl ⟨by omega, by omega⟩) rfl (by omega) (by omega) (by omega) rfl rfl (Nat.le_of_ble_eq_true rfl) (ret1 ?_)
      refine j_callV (d' := d - 1) hc dX11_byRule_48 vX11_254 hS.1 (zWo (d - 1) _ a q n (prS D a) (min a (moS D E)) _ (by omega) hS zpf ⟨by omega, by omega⟩ ⟨by omega, by omega⟩ ⟨by omega, by omega⟩ ⟨by omega, by omega⟩ ⟨by omega, by omega⟩) rfl (by omega) (by omega) (by omega) rfl rfl (Nat.le_of_ble_eq_true rfl) (retE fun zv48 zq48 zp48 => ?_)
      obtain ⟨zv8, zpf8, zF8⟩ := zp48
      subst zv8
      have zwb := woS_b (cf := zq.2) (cl := zq.1) (a := a) (s := q) (n := n) (p := prS D a) (q := min a (moS D E)) zcf ⟨by omega, by omega⟩ ⟨by omega, by omega⟩ ⟨by omega, by omega⟩ ⟨by omega, by omega⟩ ⟨by omega, by omega⟩
      have zzmod_q8 := MdS.fr (fun z hz => zF8 z (fun y => nDp hz (by rw [y]; decide))) hS
      refine j_mmin hc dX11_byRule_51 mX11_169 mo_min ⟨by omega, by omega⟩ zwb (by omega) (by omega) rfl (by omega) (Nat.le_of_ble_eq_true rfl) ?_
      refine j_mmax hc dX11_byRule_54 mX11_260 mo_max ⟨by omega, by omega⟩ ⟨by omega, by omega⟩ (by omega) (by omega) rfl (by omega) (Nat.le_of_ble_eq_true rfl) ?_
      exact j_iret hc he dX11_byRule_57 rfl (by omega) (by omega) ⟨_, rfl, by unfold kuS; rw [if_pos (by omega), zru]; show vI _ = vI _; congr 1; rw [Int.min_comm], ⟨_, _, _, _, ⟨(zF8 _ (by simp)).trans hX.1, (zF8 _ (by simp)).trans hX.2.1, (zF8 _ (by simp)).trans hX.2.2.1, (zF8 _ (by simp)).trans hX.2.2.2.1, zpf8, hX.2.2.2.2.2⟩⟩, zF8.mono fun z zz => by rw [zz]; decide⟩
    · exact absurd zc1 zr
set_option maxRecDepth 100000 in
set_option maxHeartbeats 4000000 in
theorem kept_step {k : WC} {s : Int → Int} {A : MAs} {l : Int} {D : LaS} {E : LaY} {ru : RU} {cs : Int} {n : Int} {c : Nat} (hW : RuC k s A E ru) (hM : MlD A l D E) (hD : LOK D) (hE : YOK E) (hl : s 37 = l) (hcs : s 38 = cs) (hcs0 : 0 ≤ cs) (hcs1 : cs ≤ 30) (hn1 : 1 ≤ n) (hn : n ≤ 12) (hc60 : 60 ≤ c) (IH : n ≠ 1 → KeC k s A D E ru cs (n - 1) c) : KeC k s A D E ru cs n (c + 10) := by
  obtain ⟨⟨zl0, zl1⟩, mSe, mNe, mPa, mCo, mMi, mRo, mLa, mRn, mHv, mBu, mSl, mGr, mTb⟩ := id hM
  obtain ⟨d1, d2, d3, d4, d5, d6, d7, d8, d9, d10, d11, d12, d13⟩ := id hD
  obtain ⟨y1, y2, y3, y4, y5, y6, y7, y8, y9, y10⟩ := id hE
  intro d h kd q a kp ke se be hd hS hX hk0 hk1 hs0 hs1 ha0 ha1
  refine Ev.mk (by decide +kernel) [_, _, _, _, _, _] rfl (Nat.le_of_ble_eq_true rfl) (fun w hc he => ?_)
  refine j_iload_n hc dX11_kept_0 rfl ?_
  refine j_iconst hc dX11_kept_1 ?_
  refine j_icmp_ne (tgt := 10) hc dX11_kept_2 (by decide) ⟨by omega, by omega⟩ ⟨by omega, by omega⟩ (fun zc1 => ?_) (fun zc1 => ?_)
  · refine j_iload_n hc dX11_kept_10 rfl ?_
    refine j_if_ne (b := 0) (tgt := 16) hc dX11_kept_11 (by decide) ⟨by omega, by omega⟩ (fun zc2 => ?_) (fun zc2 => ?_)
    · refine j_iload_n hc dX11_kept_16 rfl ?_
      refine j_sipush hc dX11_kept_17 (by decide) ?_
      refine j_imul hc dX11_kept_20 ?_
      refine j_iload_n hc dX11_kept_21 rfl ?_
      refine j_iload_n hc dX11_kept_22 rfl ?_
      refine j_iload hc dX11_kept_23 rfl ?_
      refine j_callS (d' := d - 1) hc dX11_kept_25 sX11_291 (ev_X11_state (by omega)) rfl (by omega) (by omega) (by omega) rfl rfl (Nat.le_of_ble_eq_true rfl) (ret1 ?_)
      refine j_iadd hc dX11_kept_28 ?_
      refine j_istore (L' := [_, _, _, _, _, _]) hc dX11_kept_29 (Nat.le_of_ble_eq_true rfl) rfl ?_
      rw [show kd * 2132 + ((n * 4 + q) * 41 + a) = kIx kd n q a from rfl]
      obtain ⟨zp01, zpE⟩ := hX.2.2.2.2.2 kd n q a (by omega) (by omega) hn1 hn hs0 hs1 ha0 ha1
      have zix := kIx_b (kd := kd) (n := n) (q := q) (a := a) (by omega) (by omega) hn1 hn hs0 (by omega) ha0 ha1
      refine j_aload_n hc dX11_kept_31 rfl ?_
      refine j_get hc dX11_kept_32 fX11_77 hS.1 rfl ?_
      refine j_iload hc dX11_kept_35 rfl ?_
      refine j_zald hc dX11_kept_37 hX.1 (by omega) (by omega) ?_
      refine j_if_ne (b := 0) (tgt := 112) hc dX11_kept_38 (by decide) (by rcases zp01 with z | z <;> (rw [z]; exact ⟨by omega, by omega⟩)) (fun zc3 => ?_) (fun zc3 => ?_)
      · have zkn : kp (kIx kd n q a) = 1 := by rcases zp01 with z | z; (· exact absurd z zc3); exact z
        refine j_aload_n hc dX11_kept_112 rfl ?_
        refine j_get hc dX11_kept_113 fX11_81 hS.1 rfl ?_
        refine j_iload hc dX11_kept_116 rfl ?_
        refine j_iald hc dX11_kept_118 hX.2.1 (by omega) (by omega) ?_
        exact j_iret hc he dX11_kept_119 rfl (by omega) (by omega) ⟨_, rfl, by rw [(zpE zkn).1], ⟨_, _, _, _, hX, fun _ _ => zkn⟩, Fr.rf _ _⟩
      · refine j_aload_n hc dX11_kept_41 rfl ?_
        refine j_get hc dX11_kept_42 fX11_81 hS.1 rfl ?_
        refine j_iload hc dX11_kept_45 rfl ?_
        refine j_iload_n hc dX11_kept_47 rfl ?_
        refine j_iconst hc dX11_kept_48 ?_
        refine j_icmp_ne (tgt := 63) hc dX11_kept_49 (by decide) ⟨by omega, by omega⟩ ⟨by omega, by omega⟩ (fun zc4 => ?_) (fun zc4 => ?_)
        · refine j_iload_n hc dX11_kept_63 rfl ?_
          refine j_iconst hc dX11_kept_64 ?_
          refine j_icmp_ne (tgt := 79) hc dX11_kept_65 (by decide) ⟨by omega, by omega⟩ ⟨by omega, by omega⟩ (fun zc5 => ?_) (fun zc5 => ?_)
          · refine j_iload_n hc dX11_kept_79 rfl ?_
            refine j_iconst hc dX11_kept_80 ?_
            refine j_icmp_ne (tgt := 95) hc dX11_kept_81 (by decide) ⟨by omega, by omega⟩ ⟨by omega, by omega⟩ (fun zc6 => ?_) (fun zc6 => ?_)
            · refine j_aload_n hc dX11_kept_95 rfl ?_
              refine j_iload_n hc dX11_kept_96 rfl ?_
              refine j_iload_n hc dX11_kept_97 rfl ?_
              refine j_iload hc dX11_kept_98 rfl ?_
              refine j_callV (d' := d - 1) hc dX11_kept_100 vX11_304 hS.1 (ev_X11_byRule (by omega) hW hS hM hD hE hl hcs hcs0 hcs1 hX (by omega) hn hs0 hs1 ha0 ha1) rfl (by omega) (by omega) (by omega) rfl rfl (Nat.le_of_ble_eq_true rfl) (retE fun zv100 zq100 zp100 => ?_)
              obtain ⟨zv8, ⟨kp8, ke8, se8, be8, zX8⟩, zF8⟩ := zp100
              subst zv8
              have zm8 := MdS.fr (fun z hz => zF8 z (nDp hz)) hS
              have zkd : kd = 4 := by omega
              have zkp : kuS D E ru n q a = kpS D E ru cs kd n q a := by rw [zkd]; unfold kpS; rw [if_neg (by omega), if_neg (by omega), if_pos rfl]
              rw [zkp]
              have zb8 : kd = 2 ∨ kd = 3 → be8 (kIx kd n q a) = bpS D E cs kd n q a := fun z => by omega
              have zs8 : kd = 3 → se8 ((n * 4 + q) * 41 + a) = saS D (a - kpS D E ru cs 3 n q a) := fun z => by omega
              refine j_iast hc dX11_kept_103 zX8.2.1 (by omega) (by omega) ?_
              generalize ezh1 : up _ _ _ = zh1
              have zzmod_zh1 := MdS.mv ezh1 (by simp) zm8
              have zM31_zh1 := (congrFun ezh1 _).symm.trans ((up_ne (by simp)).trans zX8.1)
              have zM32_zh1 := (congrFun ezh1 _).symm.trans (up_same _ _ _)
              refine j_aload_n hc dX11_kept_104 rfl ?_
              refine j_get hc dX11_kept_105 fX11_77 zzmod_zh1.1 rfl ?_
              refine j_iload hc dX11_kept_108 rfl ?_
              refine j_iconst hc dX11_kept_110 ?_
              refine j_zast hc dX11_kept_111 zM31_zh1 (by first | exact Or.inl rfl | exact Or.inr rfl) (by omega) (by omega) ?_
              generalize ezh2 : up _ _ _ = zh2
              have zzmod_zh2 := MdS.mv ezh2 (by simp) zzmod_zh1
              have zM31_zh2 := (congrFun ezh2 _).symm.trans (up_same _ _ _)
              have zM32_zh2 := (congrFun ezh2 _).symm.trans ((up_ne (by simp)).trans zM32_zh1)
              refine j_aload_n hc dX11_kept_112 rfl ?_
              refine j_get hc dX11_kept_113 fX11_81 zzmod_zh2.1 rfl ?_
              refine j_iload hc dX11_kept_116 rfl ?_
              refine j_iald hc dX11_kept_118 zM32_zh2 (by omega) (by omega) ?_
              exact j_iret hc he dX11_kept_119 rfl (by omega) (by omega) ⟨_, rfl, by rw [fu_same], ⟨_, _, _, _, ⟨zM31_zh2, zM32_zh2, by rw [← ezh2, ← ezh1, up_ne (by simp), up_ne (by simp)]; exact zX8.2.2.1, by rw [← ezh2, ← ezh1, up_ne (by simp), up_ne (by simp)]; exact zX8.2.2.2.1, (by obtain ⟨pf, zpf⟩ := zX8.2.2.2.2.1; exact ⟨pf, by rw [← ezh2, ← ezh1, up_ne (by simp), up_ne (by simp)]; exact zpf⟩), MmV.step hD zX8.2.2.2.2.2 hn1 hn hs0 hs1 ha0 ha1 zb8 zs8⟩, fun _ _ => fu_same _ _ _⟩, by rw [← ezh2, ← ezh1]; exact (zF8.push (by decide)).push (by decide)⟩
            · refine j_aload_n hc dX11_kept_84 rfl ?_
              refine j_iload_n hc dX11_kept_85 rfl ?_
              refine j_iload_n hc dX11_kept_86 rfl ?_
              refine j_iload hc dX11_kept_87 rfl ?_
              refine j_callV (d' := d - 1) hc dX11_kept_89 vX11_301 hS.1 (ev_X11_byOne (c := c + 1) (fun z => best_of hM hD hE hl hcs hcs0 hcs1 (IH z) (by omega) (by omega) (by omega)) (by omega) (by omega) hS hM hD hE hl hcs hcs0 hcs1 hX hn1 hn hs0 hs1 ha0 ha1) rfl (by omega) (by omega) (by omega) rfl rfl (Nat.le_of_ble_eq_true rfl) (retE fun zv89 zq89 zp89 => ?_)
              obtain ⟨zv8, ⟨kp8, ke8, se8, be8, zX8, zb8, zs8⟩, zF8⟩ := zp89
              subst zv8
              have zm8 := MdS.fr (fun z hz => zF8 z (nDp hz)) hS
              have zkd : kd = 3 := by omega
              have zkp : kpS D E ru cs 3 n q a = kpS D E ru cs kd n q a := by rw [zkd]
              rw [zkp]
              have zb8 : kd = 2 ∨ kd = 3 → be8 (kIx kd n q a) = bpS D E cs kd n q a := fun z => by rw [zkd]; exact zb8
              have zs8 : kd = 3 → se8 ((n * 4 + q) * 41 + a) = saS D (a - kpS D E ru cs 3 n q a) := fun _ => zs8
              refine j_goto (tgt := 103) hc dX11_kept_92 (by decide) ?_
              refine j_iast hc dX11_kept_103 zX8.2.1 (by omega) (by omega) ?_
              generalize ezh3 : up _ _ _ = zh3
              have zzmod_zh3 := MdS.mv ezh3 (by simp) zm8
              have zM31_zh3 := (congrFun ezh3 _).symm.trans ((up_ne (by simp)).trans zX8.1)
              have zM32_zh3 := (congrFun ezh3 _).symm.trans (up_same _ _ _)
              refine j_aload_n hc dX11_kept_104 rfl ?_
              refine j_get hc dX11_kept_105 fX11_77 zzmod_zh3.1 rfl ?_
              refine j_iload hc dX11_kept_108 rfl ?_
              refine j_iconst hc dX11_kept_110 ?_
              refine j_zast hc dX11_kept_111 zM31_zh3 (by first | exact Or.inl rfl | exact Or.inr rfl) (by omega) (by omega) ?_
              generalize ezh4 : up _ _ _ = zh4
              have zzmod_zh4 := MdS.mv ezh4 (by simp) zzmod_zh3
              have zM31_zh4 := (congrFun ezh4 _).symm.trans (up_same _ _ _)
              have zM32_zh4 := (congrFun ezh4 _).symm.trans ((up_ne (by simp)).trans zM32_zh3)
              refine j_aload_n hc dX11_kept_112 rfl ?_
              refine j_get hc dX11_kept_113 fX11_81 zzmod_zh4.1 rfl ?_
              refine j_iload hc dX11_kept_116 rfl ?_
              refine j_iald hc dX11_kept_118 zM32_zh4 (by omega) (by omega) ?_
              exact j_iret hc he dX11_kept_119 rfl (by omega) (by omega) ⟨_, rfl, by rw [fu_same], ⟨_, _, _, _, ⟨zM31_zh4, zM32_zh4, by rw [← ezh4, ← ezh3, up_ne (by simp), up_ne (by simp)]; exact zX8.2.2.1, by rw [← ezh4, ← ezh3, up_ne (by simp), up_ne (by simp)]; exact zX8.2.2.2.1, (by obtain ⟨pf, zpf⟩ := zX8.2.2.2.2.1; exact ⟨pf, by rw [← ezh4, ← ezh3, up_ne (by simp), up_ne (by simp)]; exact zpf⟩), MmV.step hD zX8.2.2.2.2.2 hn1 hn hs0 hs1 ha0 ha1 zb8 zs8⟩, fun _ _ => fu_same _ _ _⟩, by rw [← ezh4, ← ezh3]; exact (zF8.push (by decide)).push (by decide)⟩
          · refine j_aload_n hc dX11_kept_68 rfl ?_
            refine j_iload_n hc dX11_kept_69 rfl ?_
            refine j_iload_n hc dX11_kept_70 rfl ?_
            refine j_iload hc dX11_kept_71 rfl ?_
            refine j_callV (d' := d - 1) hc dX11_kept_73 vX11_298 hS.1 (ev_X11_byGood (best_of hM hD hE hl hcs hcs0 hcs1 (IH (by omega)) (by omega) (by omega) (by omega)) (by omega) (by omega) hS hM hD hE hl hcs hcs0 hcs1 hX (by omega) hn hs0 hs1 ha0 ha1) rfl (by omega) (by omega) (by omega) rfl rfl (Nat.le_of_ble_eq_true rfl) (retE fun zv73 zq73 zp73 => ?_)
            obtain ⟨zv8, ⟨kp8, ke8, se8, be8, zX8, zb8⟩, zF8⟩ := zp73
            subst zv8
            have zm8 := MdS.fr (fun z hz => zF8 z (nDp hz)) hS
            have zkd : kd = 2 := by omega
            have zkp : kpS D E ru cs 2 n q a = kpS D E ru cs kd n q a := by rw [zkd]
            rw [zkp]
            have zb8 : kd = 2 ∨ kd = 3 → be8 (kIx kd n q a) = bpS D E cs kd n q a := fun z => by rw [zkd]; exact zb8
            have zs8 : kd = 3 → se8 ((n * 4 + q) * 41 + a) = saS D (a - kpS D E ru cs 3 n q a) := fun z => by omega
            refine j_goto (tgt := 103) hc dX11_kept_76 (by decide) ?_
            refine j_iast hc dX11_kept_103 zX8.2.1 (by omega) (by omega) ?_
            generalize ezh5 : up _ _ _ = zh5
            have zzmod_zh5 := MdS.mv ezh5 (by simp) zm8
            have zM31_zh5 := (congrFun ezh5 _).symm.trans ((up_ne (by simp)).trans zX8.1)
            have zM32_zh5 := (congrFun ezh5 _).symm.trans (up_same _ _ _)
            refine j_aload_n hc dX11_kept_104 rfl ?_
            refine j_get hc dX11_kept_105 fX11_77 zzmod_zh5.1 rfl ?_
            refine j_iload hc dX11_kept_108 rfl ?_
            refine j_iconst hc dX11_kept_110 ?_
            refine j_zast hc dX11_kept_111 zM31_zh5 (by first | exact Or.inl rfl | exact Or.inr rfl) (by omega) (by omega) ?_
            generalize ezh6 : up _ _ _ = zh6
            have zzmod_zh6 := MdS.mv ezh6 (by simp) zzmod_zh5
            have zM31_zh6 := (congrFun ezh6 _).symm.trans (up_same _ _ _)
            have zM32_zh6 := (congrFun ezh6 _).symm.trans ((up_ne (by simp)).trans zM32_zh5)
            refine j_aload_n hc dX11_kept_112 rfl ?_
            refine j_get hc dX11_kept_113 fX11_81 zzmod_zh6.1 rfl ?_
            refine j_iload hc dX11_kept_116 rfl ?_
            refine j_iald hc dX11_kept_118 zM32_zh6 (by omega) (by omega) ?_
            exact j_iret hc he dX11_kept_119 rfl (by omega) (by omega) ⟨_, rfl, by rw [fu_same], ⟨_, _, _, _, ⟨zM31_zh6, zM32_zh6, by rw [← ezh6, ← ezh5, up_ne (by simp), up_ne (by simp)]; exact zX8.2.2.1, by rw [← ezh6, ← ezh5, up_ne (by simp), up_ne (by simp)]; exact zX8.2.2.2.1, (by obtain ⟨pf, zpf⟩ := zX8.2.2.2.2.1; exact ⟨pf, by rw [← ezh6, ← ezh5, up_ne (by simp), up_ne (by simp)]; exact zpf⟩), MmV.step hD zX8.2.2.2.2.2 hn1 hn hs0 hs1 ha0 ha1 zb8 zs8⟩, fun _ _ => fu_same _ _ _⟩, by rw [← ezh6, ← ezh5]; exact (zF8.push (by decide)).push (by decide)⟩
        · refine j_aload_n hc dX11_kept_52 rfl ?_
          refine j_iload_n hc dX11_kept_53 rfl ?_
          refine j_iload_n hc dX11_kept_54 rfl ?_
          refine j_iload hc dX11_kept_55 rfl ?_
          refine j_callV (d' := d - 1) hc dX11_kept_57 vX11_295 hS.1 (ev_X11_byAll (IH (by omega)) (by omega) (by omega) hS hM hD hE hl hcs hcs0 hcs1 hX (by omega) hn hs0 hs1 ha0 ha1) rfl (by omega) (by omega) (by omega) rfl rfl (Nat.le_of_ble_eq_true rfl) (retE fun zv57 zq57 zp57 => ?_)
          obtain ⟨zv8, ⟨kp8, ke8, se8, be8, zX8⟩, zF8⟩ := zp57
          subst zv8
          have zm8 := MdS.fr (fun z hz => zF8 z (nDp hz)) hS
          have zkd : kd = 1 := by omega
          have zkp : (kaN D E cs (n - 1).toNat q a : Int) = kpS D E ru cs kd n q a := by rw [zkd]; rfl
          rw [zkp]
          have zb8 : kd = 2 ∨ kd = 3 → be8 (kIx kd n q a) = bpS D E cs kd n q a := fun z => by omega
          have zs8 : kd = 3 → se8 ((n * 4 + q) * 41 + a) = saS D (a - kpS D E ru cs 3 n q a) := fun z => by omega
          refine j_goto (tgt := 103) hc dX11_kept_60 (by decide) ?_
          refine j_iast hc dX11_kept_103 zX8.2.1 (by omega) (by omega) ?_
          generalize ezh7 : up _ _ _ = zh7
          have zzmod_zh7 := MdS.mv ezh7 (by simp) zm8
          have zM31_zh7 := (congrFun ezh7 _).symm.trans ((up_ne (by simp)).trans zX8.1)
          have zM32_zh7 := (congrFun ezh7 _).symm.trans (up_same _ _ _)
          refine j_aload_n hc dX11_kept_104 rfl ?_
          refine j_get hc dX11_kept_105 fX11_77 zzmod_zh7.1 rfl ?_
          refine j_iload hc dX11_kept_108 rfl ?_
          refine j_iconst hc dX11_kept_110 ?_
          refine j_zast hc dX11_kept_111 zM31_zh7 (by first | exact Or.inl rfl | exact Or.inr rfl) (by omega) (by omega) ?_
          generalize ezh8 : up _ _ _ = zh8
          have zzmod_zh8 := MdS.mv ezh8 (by simp) zzmod_zh7
          have zM31_zh8 := (congrFun ezh8 _).symm.trans (up_same _ _ _)
          have zM32_zh8 := (congrFun ezh8 _).symm.trans ((up_ne (by simp)).trans zM32_zh7)
          refine j_aload_n hc dX11_kept_112 rfl ?_
          refine j_get hc dX11_kept_113 fX11_81 zzmod_zh8.1 rfl ?_
          refine j_iload hc dX11_kept_116 rfl ?_
          refine j_iald hc dX11_kept_118 zM32_zh8 (by omega) (by omega) ?_
          exact j_iret hc he dX11_kept_119 rfl (by omega) (by omega) ⟨_, rfl, by rw [fu_same], ⟨_, _, _, _, ⟨zM31_zh8, zM32_zh8, by rw [← ezh8, ← ezh7, up_ne (by simp), up_ne (by simp)]; exact zX8.2.2.1, by rw [← ezh8, ← ezh7, up_ne (by simp), up_ne (by simp)]; exact zX8.2.2.2.1, (by obtain ⟨pf, zpf⟩ := zX8.2.2.2.2.1; exact ⟨pf, by rw [← ezh8, ← ezh7, up_ne (by simp), up_ne (by simp)]; exact zpf⟩), MmV.step hD zX8.2.2.2.2.2 hn1 hn hs0 hs1 ha0 ha1 zb8 zs8⟩, fun _ _ => fu_same _ _ _⟩, by rw [← ezh8, ← ezh7]; exact (zF8.push (by decide)).push (by decide)⟩
    · refine j_iconst hc dX11_kept_14 ?_
      exact j_iret hc he dX11_kept_15 rfl (by omega) (by omega) ⟨_, rfl, by first | rw [show n = 1 by omega, kp_1 (by omega) ha0] | rw [show kd = 0 by omega, kp_0], ⟨_, _, _, _, hX, fun z1 z2 => by omega⟩, Fr.rf _ _⟩
  · refine j_iload_n hc dX11_kept_5 rfl ?_
    refine j_iconst hc dX11_kept_6 ?_
    refine j_icmp_ne (tgt := 14) hc dX11_kept_7 (by decide) ⟨by omega, by omega⟩ ⟨by omega, by omega⟩ (fun zc7 => ?_) (fun zc7 => ?_)
    · refine j_iconst hc dX11_kept_14 ?_
      exact j_iret hc he dX11_kept_15 rfl (by omega) (by omega) ⟨_, rfl, by first | rw [show n = 1 by omega, kp_1 (by omega) ha0] | rw [show kd = 0 by omega, kp_0], ⟨_, _, _, _, hX, fun z1 z2 => by omega⟩, Fr.rf _ _⟩
    · refine j_iload_n hc dX11_kept_10 rfl ?_
      refine j_if_ne (b := 0) (tgt := 16) hc dX11_kept_11 (by decide) ⟨by omega, by omega⟩ (fun zc8 => ?_) (fun zc8 => ?_)
      · refine j_iload_n hc dX11_kept_16 rfl ?_
        refine j_sipush hc dX11_kept_17 (by decide) ?_
        refine j_imul hc dX11_kept_20 ?_
        refine j_iload_n hc dX11_kept_21 rfl ?_
        refine j_iload_n hc dX11_kept_22 rfl ?_
        refine j_iload hc dX11_kept_23 rfl ?_
        refine j_callS (d' := d - 1) hc dX11_kept_25 sX11_291 (ev_X11_state (by omega)) rfl (by omega) (by omega) (by omega) rfl rfl (Nat.le_of_ble_eq_true rfl) (ret1 ?_)
        refine j_iadd hc dX11_kept_28 ?_
        refine j_istore (L' := [_, _, _, _, _, _]) hc dX11_kept_29 (Nat.le_of_ble_eq_true rfl) rfl ?_
        rw [show kd * 2132 + ((n * 4 + q) * 41 + a) = kIx kd n q a from rfl]
        obtain ⟨zp01, zpE⟩ := hX.2.2.2.2.2 kd n q a (by omega) (by omega) hn1 hn hs0 hs1 ha0 ha1
        have zix := kIx_b (kd := kd) (n := n) (q := q) (a := a) (by omega) (by omega) hn1 hn hs0 (by omega) ha0 ha1
        refine j_aload_n hc dX11_kept_31 rfl ?_
        refine j_get hc dX11_kept_32 fX11_77 hS.1 rfl ?_
        refine j_iload hc dX11_kept_35 rfl ?_
        refine j_zald hc dX11_kept_37 hX.1 (by omega) (by omega) ?_
        refine j_if_ne (b := 0) (tgt := 112) hc dX11_kept_38 (by decide) (by rcases zp01 with z | z <;> (rw [z]; exact ⟨by omega, by omega⟩)) (fun zc9 => ?_) (fun zc9 => ?_)
        · have zkn : kp (kIx kd n q a) = 1 := by rcases zp01 with z | z; (· exact absurd z zc9); exact z
          refine j_aload_n hc dX11_kept_112 rfl ?_
          refine j_get hc dX11_kept_113 fX11_81 hS.1 rfl ?_
          refine j_iload hc dX11_kept_116 rfl ?_
          refine j_iald hc dX11_kept_118 hX.2.1 (by omega) (by omega) ?_
          exact j_iret hc he dX11_kept_119 rfl (by omega) (by omega) ⟨_, rfl, by rw [(zpE zkn).1], ⟨_, _, _, _, hX, fun _ _ => zkn⟩, Fr.rf _ _⟩
        · refine j_aload_n hc dX11_kept_41 rfl ?_
          refine j_get hc dX11_kept_42 fX11_81 hS.1 rfl ?_
          refine j_iload hc dX11_kept_45 rfl ?_
          refine j_iload_n hc dX11_kept_47 rfl ?_
          refine j_iconst hc dX11_kept_48 ?_
          refine j_icmp_ne (tgt := 63) hc dX11_kept_49 (by decide) ⟨by omega, by omega⟩ ⟨by omega, by omega⟩ (fun zc10 => ?_) (fun zc10 => ?_)
          · refine j_iload_n hc dX11_kept_63 rfl ?_
            refine j_iconst hc dX11_kept_64 ?_
            refine j_icmp_ne (tgt := 79) hc dX11_kept_65 (by decide) ⟨by omega, by omega⟩ ⟨by omega, by omega⟩ (fun zc11 => ?_) (fun zc11 => ?_)
            · refine j_iload_n hc dX11_kept_79 rfl ?_
              refine j_iconst hc dX11_kept_80 ?_
              refine j_icmp_ne (tgt := 95) hc dX11_kept_81 (by decide) ⟨by omega, by omega⟩ ⟨by omega, by omega⟩ (fun zc12 => ?_) (fun zc12 => ?_)
              · refine j_aload_n hc dX11_kept_95 rfl ?_
                refine j_iload_n hc dX11_kept_96 rfl ?_
                refine j_iload_n hc dX11_kept_97 rfl ?_
                refine j_iload hc dX11_kept_98 rfl ?_
                refine j_callV (d' := d - 1) hc dX11_kept_100 vX11_304 hS.1 (ev_X11_byRule (by omega) hW hS hM hD hE hl hcs hcs0 hcs1 hX (by omega) hn hs0 hs1 ha0 ha1) rfl (by omega) (by omega) (by omega) rfl rfl (Nat.le_of_ble_eq_true rfl) (retE fun zv100 zq100 zp100 => ?_)
                obtain ⟨zv8, ⟨kp8, ke8, se8, be8, zX8⟩, zF8⟩ := zp100
                subst zv8
                have zm8 := MdS.fr (fun z hz => zF8 z (nDp hz)) hS
                have zkd : kd = 4 := by omega
                have zkp : kuS D E ru n q a = kpS D E ru cs kd n q a := by rw [zkd]; unfold kpS; rw [if_neg (by omega), if_neg (by omega), if_pos rfl]
                rw [zkp]
                have zb8 : kd = 2 ∨ kd = 3 → be8 (kIx kd n q a) = bpS D E cs kd n q a := fun z => by omega
                have zs8 : kd = 3 → se8 ((n * 4 + q) * 41 + a) = saS D (a - kpS D E ru cs 3 n q a) := fun z => by omega
                refine j_iast hc dX11_kept_103 zX8.2.1 (by omega) (by omega) ?_
                generalize ezh9 : up _ _ _ = zh9
                have zzmod_zh9 := MdS.mv ezh9 (by simp) zm8
                have zM31_zh9 := (congrFun ezh9 _).symm.trans ((up_ne (by simp)).trans zX8.1)
                have zM32_zh9 := (congrFun ezh9 _).symm.trans (up_same _ _ _)
                refine j_aload_n hc dX11_kept_104 rfl ?_
                refine j_get hc dX11_kept_105 fX11_77 zzmod_zh9.1 rfl ?_
                refine j_iload hc dX11_kept_108 rfl ?_
                refine j_iconst hc dX11_kept_110 ?_
                refine j_zast hc dX11_kept_111 zM31_zh9 (by first | exact Or.inl rfl | exact Or.inr rfl) (by omega) (by omega) ?_
                generalize ezh10 : up _ _ _ = zh10
                have zzmod_zh10 := MdS.mv ezh10 (by simp) zzmod_zh9
                have zM31_zh10 := (congrFun ezh10 _).symm.trans (up_same _ _ _)
                have zM32_zh10 := (congrFun ezh10 _).symm.trans ((up_ne (by simp)).trans zM32_zh9)
                refine j_aload_n hc dX11_kept_112 rfl ?_
                refine j_get hc dX11_kept_113 fX11_81 zzmod_zh10.1 rfl ?_
                refine j_iload hc dX11_kept_116 rfl ?_
                refine j_iald hc dX11_kept_118 zM32_zh10 (by omega) (by omega) ?_
                exact j_iret hc he dX11_kept_119 rfl (by omega) (by omega) ⟨_, rfl, by rw [fu_same], ⟨_, _, _, _, ⟨zM31_zh10, zM32_zh10, by rw [← ezh10, ← ezh9, up_ne (by simp), up_ne (by simp)]; exact zX8.2.2.1, by rw [← ezh10, ← ezh9, up_ne (by simp), up_ne (by simp)]; exact zX8.2.2.2.1, (by obtain ⟨pf, zpf⟩ := zX8.2.2.2.2.1; exact ⟨pf, by rw [← ezh10, ← ezh9, up_ne (by simp), up_ne (by simp)]; exact zpf⟩), MmV.step hD zX8.2.2.2.2.2 hn1 hn hs0 hs1 ha0 ha1 zb8 zs8⟩, fun _ _ => fu_same _ _ _⟩, by rw [← ezh10, ← ezh9]; exact (zF8.push (by decide)).push (by decide)⟩
              · refine j_aload_n hc dX11_kept_84 rfl ?_
                refine j_iload_n hc dX11_kept_85 rfl ?_
                refine j_iload_n hc dX11_kept_86 rfl ?_
                refine j_iload hc dX11_kept_87 rfl ?_
                refine j_callV (d' := d - 1) hc dX11_kept_89 vX11_301 hS.1 (ev_X11_byOne (c := c + 1) (fun z => best_of hM hD hE hl hcs hcs0 hcs1 (IH z) (by omega) (by omega) (by omega)) (by omega) (by omega) hS hM hD hE hl hcs hcs0 hcs1 hX hn1 hn hs0 hs1 ha0 ha1) rfl (by omega) (by omega) (by omega) rfl rfl (Nat.le_of_ble_eq_true rfl) (retE fun zv89 zq89 zp89 => ?_)
                obtain ⟨zv8, ⟨kp8, ke8, se8, be8, zX8, zb8, zs8⟩, zF8⟩ := zp89
                subst zv8
                have zm8 := MdS.fr (fun z hz => zF8 z (nDp hz)) hS
                have zkd : kd = 3 := by omega
                have zkp : kpS D E ru cs 3 n q a = kpS D E ru cs kd n q a := by rw [zkd]
                rw [zkp]
                have zb8 : kd = 2 ∨ kd = 3 → be8 (kIx kd n q a) = bpS D E cs kd n q a := fun z => by rw [zkd]; exact zb8
                have zs8 : kd = 3 → se8 ((n * 4 + q) * 41 + a) = saS D (a - kpS D E ru cs 3 n q a) := fun _ => zs8
                refine j_goto (tgt := 103) hc dX11_kept_92 (by decide) ?_
                refine j_iast hc dX11_kept_103 zX8.2.1 (by omega) (by omega) ?_
                generalize ezh11 : up _ _ _ = zh11
                have zzmod_zh11 := MdS.mv ezh11 (by simp) zm8
                have zM31_zh11 := (congrFun ezh11 _).symm.trans ((up_ne (by simp)).trans zX8.1)
                have zM32_zh11 := (congrFun ezh11 _).symm.trans (up_same _ _ _)
                refine j_aload_n hc dX11_kept_104 rfl ?_
                refine j_get hc dX11_kept_105 fX11_77 zzmod_zh11.1 rfl ?_
                refine j_iload hc dX11_kept_108 rfl ?_
                refine j_iconst hc dX11_kept_110 ?_
                refine j_zast hc dX11_kept_111 zM31_zh11 (by first | exact Or.inl rfl | exact Or.inr rfl) (by omega) (by omega) ?_
                generalize ezh12 : up _ _ _ = zh12
                have zzmod_zh12 := MdS.mv ezh12 (by simp) zzmod_zh11
                have zM31_zh12 := (congrFun ezh12 _).symm.trans (up_same _ _ _)
                have zM32_zh12 := (congrFun ezh12 _).symm.trans ((up_ne (by simp)).trans zM32_zh11)
                refine j_aload_n hc dX11_kept_112 rfl ?_
                refine j_get hc dX11_kept_113 fX11_81 zzmod_zh12.1 rfl ?_
                refine j_iload hc dX11_kept_116 rfl ?_
                refine j_iald hc dX11_kept_118 zM32_zh12 (by omega) (by omega) ?_
                exact j_iret hc he dX11_kept_119 rfl (by omega) (by omega) ⟨_, rfl, by rw [fu_same], ⟨_, _, _, _, ⟨zM31_zh12, zM32_zh12, by rw [← ezh12, ← ezh11, up_ne (by simp), up_ne (by simp)]; exact zX8.2.2.1, by rw [← ezh12, ← ezh11, up_ne (by simp), up_ne (by simp)]; exact zX8.2.2.2.1, (by obtain ⟨pf, zpf⟩ := zX8.2.2.2.2.1; exact ⟨pf, by rw [← ezh12, ← ezh11, up_ne (by simp), up_ne (by simp)]; exact zpf⟩), MmV.step hD zX8.2.2.2.2.2 hn1 hn hs0 hs1 ha0 ha1 zb8 zs8⟩, fun _ _ => fu_same _ _ _⟩, by rw [← ezh12, ← ezh11]; exact (zF8.push (by decide)).push (by decide)⟩
            · refine j_aload_n hc dX11_kept_68 rfl ?_
              refine j_iload_n hc dX11_kept_69 rfl ?_
              refine j_iload_n hc dX11_kept_70 rfl ?_
              refine j_iload hc dX11_kept_71 rfl ?_
              refine j_callV (d' := d - 1) hc dX11_kept_73 vX11_298 hS.1 (ev_X11_byGood (best_of hM hD hE hl hcs hcs0 hcs1 (IH (by omega)) (by omega) (by omega) (by omega)) (by omega) (by omega) hS hM hD hE hl hcs hcs0 hcs1 hX (by omega) hn hs0 hs1 ha0 ha1) rfl (by omega) (by omega) (by omega) rfl rfl (Nat.le_of_ble_eq_true rfl) (retE fun zv73 zq73 zp73 => ?_)
              obtain ⟨zv8, ⟨kp8, ke8, se8, be8, zX8, zb8⟩, zF8⟩ := zp73
              subst zv8
              have zm8 := MdS.fr (fun z hz => zF8 z (nDp hz)) hS
              have zkd : kd = 2 := by omega
              have zkp : kpS D E ru cs 2 n q a = kpS D E ru cs kd n q a := by rw [zkd]
              rw [zkp]
              have zb8 : kd = 2 ∨ kd = 3 → be8 (kIx kd n q a) = bpS D E cs kd n q a := fun z => by rw [zkd]; exact zb8
              have zs8 : kd = 3 → se8 ((n * 4 + q) * 41 + a) = saS D (a - kpS D E ru cs 3 n q a) := fun z => by omega
              refine j_goto (tgt := 103) hc dX11_kept_76 (by decide) ?_
              refine j_iast hc dX11_kept_103 zX8.2.1 (by omega) (by omega) ?_
              generalize ezh13 : up _ _ _ = zh13
              have zzmod_zh13 := MdS.mv ezh13 (by simp) zm8
              have zM31_zh13 := (congrFun ezh13 _).symm.trans ((up_ne (by simp)).trans zX8.1)
              have zM32_zh13 := (congrFun ezh13 _).symm.trans (up_same _ _ _)
              refine j_aload_n hc dX11_kept_104 rfl ?_
              refine j_get hc dX11_kept_105 fX11_77 zzmod_zh13.1 rfl ?_
              refine j_iload hc dX11_kept_108 rfl ?_
              refine j_iconst hc dX11_kept_110 ?_
              refine j_zast hc dX11_kept_111 zM31_zh13 (by first | exact Or.inl rfl | exact Or.inr rfl) (by omega) (by omega) ?_
              generalize ezh14 : up _ _ _ = zh14
              have zzmod_zh14 := MdS.mv ezh14 (by simp) zzmod_zh13
              have zM31_zh14 := (congrFun ezh14 _).symm.trans (up_same _ _ _)
              have zM32_zh14 := (congrFun ezh14 _).symm.trans ((up_ne (by simp)).trans zM32_zh13)
              refine j_aload_n hc dX11_kept_112 rfl ?_
              refine j_get hc dX11_kept_113 fX11_81 zzmod_zh14.1 rfl ?_
              refine j_iload hc dX11_kept_116 rfl ?_
              refine j_iald hc dX11_kept_118 zM32_zh14 (by omega) (by omega) ?_
              exact j_iret hc he dX11_kept_119 rfl (by omega) (by omega) ⟨_, rfl, by rw [fu_same], ⟨_, _, _, _, ⟨zM31_zh14, zM32_zh14, by rw [← ezh14, ← ezh13, up_ne (by simp), up_ne (by simp)]; exact zX8.2.2.1, by rw [← ezh14, ← ezh13, up_ne (by simp), up_ne (by simp)]; exact zX8.2.2.2.1, (by obtain ⟨pf, zpf⟩ := zX8.2.2.2.2.1; exact ⟨pf, by rw [← ezh14, ← ezh13, up_ne (by simp), up_ne (by simp)]; exact zpf⟩), MmV.step hD zX8.2.2.2.2.2 hn1 hn hs0 hs1 ha0 ha1 zb8 zs8⟩, fun _ _ => fu_same _ _ _⟩, by rw [← ezh14, ← ezh13]; exact (zF8.push (by decide)).push (by decide)⟩
          · refine j_aload_n hc dX11_kept_52 rfl ?_
            refine j_iload_n hc dX11_kept_53 rfl ?_
            refine j_iload_n hc dX11_kept_54 rfl ?_
            refine j_iload hc dX11_kept_55 rfl ?_
            refine j_callV (d' := d - 1) hc dX11_kept_57 vX11_295 hS.1 (ev_X11_byAll (IH (by omega)) (by omega) (by omega) hS hM hD hE hl hcs hcs0 hcs1 hX (by omega) hn hs0 hs1 ha0 ha1) rfl (by omega) (by omega) (by omega) rfl rfl (Nat.le_of_ble_eq_true rfl) (retE fun zv57 zq57 zp57 => ?_)
            obtain ⟨zv8, ⟨kp8, ke8, se8, be8, zX8⟩, zF8⟩ := zp57
            subst zv8
            have zm8 := MdS.fr (fun z hz => zF8 z (nDp hz)) hS
            have zkd : kd = 1 := by omega
            have zkp : (kaN D E cs (n - 1).toNat q a : Int) = kpS D E ru cs kd n q a := by rw [zkd]; rfl
            rw [zkp]
            have zb8 : kd = 2 ∨ kd = 3 → be8 (kIx kd n q a) = bpS D E cs kd n q a := fun z => by omega
            have zs8 : kd = 3 → se8 ((n * 4 + q) * 41 + a) = saS D (a - kpS D E ru cs 3 n q a) := fun z => by omega
            refine j_goto (tgt := 103) hc dX11_kept_60 (by decide) ?_
            refine j_iast hc dX11_kept_103 zX8.2.1 (by omega) (by omega) ?_
            generalize ezh15 : up _ _ _ = zh15
            have zzmod_zh15 := MdS.mv ezh15 (by simp) zm8
            have zM31_zh15 := (congrFun ezh15 _).symm.trans ((up_ne (by simp)).trans zX8.1)
            have zM32_zh15 := (congrFun ezh15 _).symm.trans (up_same _ _ _)
            refine j_aload_n hc dX11_kept_104 rfl ?_
            refine j_get hc dX11_kept_105 fX11_77 zzmod_zh15.1 rfl ?_
            refine j_iload hc dX11_kept_108 rfl ?_
            refine j_iconst hc dX11_kept_110 ?_
            refine j_zast hc dX11_kept_111 zM31_zh15 (by first | exact Or.inl rfl | exact Or.inr rfl) (by omega) (by omega) ?_
            generalize ezh16 : up _ _ _ = zh16
            have zzmod_zh16 := MdS.mv ezh16 (by simp) zzmod_zh15
            have zM31_zh16 := (congrFun ezh16 _).symm.trans (up_same _ _ _)
            have zM32_zh16 := (congrFun ezh16 _).symm.trans ((up_ne (by simp)).trans zM32_zh15)
            refine j_aload_n hc dX11_kept_112 rfl ?_
            refine j_get hc dX11_kept_113 fX11_81 zzmod_zh16.1 rfl ?_
            refine j_iload hc dX11_kept_116 rfl ?_
            refine j_iald hc dX11_kept_118 zM32_zh16 (by omega) (by omega) ?_
            exact j_iret hc he dX11_kept_119 rfl (by omega) (by omega) ⟨_, rfl, by rw [fu_same], ⟨_, _, _, _, ⟨zM31_zh16, zM32_zh16, by rw [← ezh16, ← ezh15, up_ne (by simp), up_ne (by simp)]; exact zX8.2.2.1, by rw [← ezh16, ← ezh15, up_ne (by simp), up_ne (by simp)]; exact zX8.2.2.2.1, (by obtain ⟨pf, zpf⟩ := zX8.2.2.2.2.1; exact ⟨pf, by rw [← ezh16, ← ezh15, up_ne (by simp), up_ne (by simp)]; exact zpf⟩), MmV.step hD zX8.2.2.2.2.2 hn1 hn hs0 hs1 ha0 ha1 zb8 zs8⟩, fun _ _ => fu_same _ _ _⟩, by rw [← ezh16, ← ezh15]; exact (zF8.push (by decide)).push (by decide)⟩
      · refine j_iconst hc dX11_kept_14 ?_
        exact j_iret hc he dX11_kept_15 rfl (by omega) (by omega) ⟨_, rfl, by first | rw [show n = 1 by omega, kp_1 (by omega) ha0] | rw [show kd = 0 by omega, kp_0], ⟨_, _, _, _, hX, fun z1 z2 => by omega⟩, Fr.rf _ _⟩
theorem kept_all {k : WC} {s : Int → Int} {A : MAs} {l : Int} {D : LaS} {E : LaY} {ru : RU} {cs : Int} (hW : RuC k s A E ru) (hM : MlD A l D E) (hD : LOK D) (hE : YOK E) (hl : s 37 = l) (hcs : s 38 = cs) (hcs0 : 0 ≤ cs) (hcs1 : cs ≤ 30) : ∀ m : Nat, m ≤ 11 → KeC k s A D E ru cs (m + 1) (10 * m + 70)
  | 0, _ => kept_step (c := 60) hW hM hD hE hl hcs hcs0 hcs1 (by omega) (by omega) (by omega) (fun z => absurd (by omega) z)
  | m + 1, hm => by
    have h := kept_all hW hM hD hE hl hcs hcs0 hcs1 m (by omega)
    have h2 := kept_step (c := 10 * m + 70) (n := ((m + 1 : Nat) : Int) + 1) hW hM hD hE hl hcs hcs0 hcs1 (by omega) (by omega) (by omega) (fun _ => by rw [show ((m + 1 : Nat) : Int) + 1 - 1 = (m : Int) + 1 by omega]; exact h)
    rw [show 10 * (m + 1) + 70 = 10 * m + 70 + 10 by omega]
    exact h2
theorem kept_at {k : WC} {s : Int → Int} {A : MAs} {l : Int} {D : LaS} {E : LaY} {ru : RU} {cs : Int} {n : Int} (hW : RuC k s A E ru) (hM : MlD A l D E) (hD : LOK D) (hE : YOK E) (hl : s 37 = l) (hcs : s 38 = cs) (hcs0 : 0 ≤ cs) (hcs1 : cs ≤ 30) (hn1 : 1 ≤ n) (hn : n ≤ 12) : KeC k s A D E ru cs n 180 := by
  have h := kept_all hW hM hD hE hl hcs hcs0 hcs1 (n - 1).toNat (by omega)
  rw [show (((n - 1).toNat : Nat) : Int) + 1 = n by omega] at h
  exact fun d h' kd q a kp ke se be hd => h d h' kd q a kp ke se be (by omega)
