/-! ===== two towns; a new barn ===== -/
abbrev twV (S : BaS) (l l2 sr n b b2 ro : Int) : Prop := (paV S l sr n ∧ paV S l2 sr n) ∧ l ≠ l2 ∧ sr ≠ 3 ∧ lSe (bD S l) = lSe (bD S l2) ∧ (0 ≤ ro ∧ ro ≤ 99) ∧ (0 ≤ b ∧ b ≤ 20) ∧ 0 ≤ b2 ∧ b2 ≤ 20
def miR (S : BaS) : Int := min (bRl S 0) (bRl S 1)
def twS (S : BaS) (l l2 sr n b b2 ro : Int) : TyS := tyN (bD S l) (bD S l2) sr sr (kqS S l sr n) (kqS S l2 sr n) (bRw S 0) (bRw S 1) ro (bCe S) b b2 (miR S).toNat
def nTow (S : BaS) (l l2 sr n b b2 ro : Int) : BaS := if twV S l l2 sr n b b2 ro then sSt S (twS S l l2 sr n b b2 ro).1 2 (miR S) 0 else S
theorem nSp2 {S : BaS} {l l2 sr : Int} {q : Nat} {j : Int} (h0 : 50 ≤ q) (h1 : q ≤ 56) (hj : j = 6 * l + sr) (h2 : l ≠ l2) : ¬ isSp S l2 sr (q, j) := nSp h0 h1 (by omega)
theorem lSp2 {S : BaS} {l l2 sr : Int} {q : Nat} (h0 : 30 ≤ q) (h1 : q ≤ 40) (h2 : l ≠ l2) : ¬ isSp S l2 sr (q, l) := fun y => by
  rcases y with y | y
  · rcases y with y | y
    · injection y with y1 y2; exact h2 y2
    · have := y.1; simp at this; omega
  · have := isOwn_lo y; simp at this; omega
set_option maxRecDepth 100000 in
set_option maxHeartbeats 4000000 in
theorem ev_X10_towns_a {k : WC} {d : Nat} {h : AH} {S : BaS} {l l2 sr n b b2 ro : Int} (hd : 12 ≤ d) (hB : BarnAt h S) (hil : inI l) (him : inI l2) (hir : inI sr) (hin : inI n) (hib : inI b) (hib2 : inI b2) (hiro : inI ro) : Ev k d mdX10_towns h [vR (0, 0), vI l, vI l2, vI sr, vI n, vI b, vI b2, vI ro] 12 7950 (pe fun v h' => v = vI (if twV S l l2 sr n b b2 ro then miR S else -1) ∧ BarnAt h' (nTow S l l2 sr n b b2 ro) ∧ Fr isBa h h') := by
  obtain ⟨⟨⟨zb0, zb11, zb12, zb13, zb14, zb141, zb15, zb18⟩, zTp, zRd⟩, zSp, zTw, zSt, zL, zK⟩ := id hB
  obtain ⟨zT1, ⟨zlc0, zlc1⟩, ⟨zrc0, zrc1⟩, zKl, zKr, zKw, ⟨zto0, zto1⟩, zse0, zse1⟩ := id zK
  by_cases hp1 : paV S l sr n ∧ paV S l2 sr n
  · skip
    obtain ⟨hp1, hp2⟩ := id hp1
    obtain ⟨hvl, ⟨hn1, hn⟩, hsr0, hsr1⟩ := id hp1
    obtain ⟨hl0, hl1⟩ := id hvl
    obtain ⟨hD, hE, hyr, hyo⟩ := zKl l hl0 hl1
    obtain ⟨hvm, ⟨hn1, hn⟩, hsr0, hsr1⟩ := id hp2
    obtain ⟨hm0, hm1⟩ := id hvm
    obtain ⟨hD2, hE2, hyr2, hyo2⟩ := zKl l2 hm0 hm1
    refine Ev.mk (by decide +kernel) [_, _, _, _, _, _, _, _, _, _] rfl (Nat.le_of_ble_eq_true rfl) (fun w hc he => ?_)
    refine j_aload_n hc dX10_towns_0 rfl ?_
    refine j_iload_n hc dX10_towns_1 rfl ?_
    refine j_iload_n hc dX10_towns_2 rfl ?_
    refine j_iload hc dX10_towns_3 rfl ?_
    refine j_callV (d' := d - 1) hc dX10_towns_5 vX10_247 zb0 (ev_X10_planForAllSeasons_ok (by omega) hB hp1) rfl (by omega) (by omega) (by omega) rfl rfl (Nat.le_of_ble_eq_true rfl) (retE fun zv5 zq5 zp5 => ?_)
    obtain ⟨zv8, zPl8⟩ := zp5
    subst zv8
    have zB8 := zPl8.barn hB hl0 hl1 (by omega) (by omega)
    obtain ⟨pl8, wf8, kf8, bf8, lf8, wl8, zX8, zH8, zn8, zR8, zF8⟩ := id zPl8
    have zsrj8 : srj sr = sr := by unfold srj; rw [if_neg (by omega)]
    have zP8 := zH8.2.2.2.1
    rw [zsrj8] at zP8
    have zV8 := zP8.2.2.2.2.2.2
    have zrow8 : ∀ q b : Int, 0 ≤ q → q < lSe (bD S l) → 0 ≤ b → b ≤ 40 → kf8 (ceS n q + b) = kqS S l sr n q b := fun q b q0 q1 b0 b1 => (PlV.row hD zV8 hn1 q0 q1 (zn8 q q0 q1) b0 b1).1
    have zFb8 := zF8.mono fun z zz => isLo_ba (isSp_lo (S := S) hsr0 (by omega) zz)
    refine j_astore (L' := [_, _, _, _, _, _, _, _, _, _]) hc dX10_towns_8 (Nat.le_of_ble_eq_true rfl) rfl ?_
    refine j_aload_n hc dX10_towns_10 rfl ?_
    refine j_iload_n hc dX10_towns_11 rfl ?_
    refine j_iload_n hc dX10_towns_12 rfl ?_
    refine j_iload hc dX10_towns_13 rfl ?_
    refine j_callV (d' := d - 1) hc dX10_towns_15 vX10_247 zB8.1.1.1 (ev_X10_planForAllSeasons_ok (by omega) zB8 hp2) rfl (by omega) (by omega) (by omega) rfl rfl (Nat.le_of_ble_eq_true rfl) (retE fun zv15 zq15 zp15 => ?_)
    obtain ⟨zv9, zPl9⟩ := zp15
    subst zv9
    have zB9 := zPl9.barn zB8 hm0 hm1 (by omega) (by omega)
    obtain ⟨pl9, wf9, kf9, bf9, lf9, wl9, zX9, zH9, zn9, zR9, zF9⟩ := id zPl9
    have zsrj9 : srj sr = sr := by unfold srj; rw [if_neg (by omega)]
    have zP9 := zH9.2.2.2.1
    rw [zsrj9] at zP9
    have zV9 := zP9.2.2.2.2.2.2
    have zrow9 : ∀ q b : Int, 0 ≤ q → q < lSe (bD S l2) → 0 ≤ b → b ≤ 40 → kf9 (ceS n q + b) = kqS S l2 sr n q b := fun q b q0 q1 b0 b1 => (PlV.row hD2 zV9 hn1 q0 q1 (zn9 q q0 q1) b0 b1).1
    have zFb9 := zF9.mono fun z zz => isLo_ba (isSp_lo (S := S) hsr0 (by omega) zz)
    refine j_astore (L' := [_, _, _, _, _, _, _, _, _, _]) hc dX10_towns_18 (Nat.le_of_ble_eq_true rfl) rfl ?_
    refine j_aload hc dX10_towns_20 rfl ?_
    refine j_ifnull (tgt := 40) hc dX10_towns_22 (by decide) (fun zc1 => ?_) (fun zc1 => ?_)
    · exact absurd zc1 (by simp)
    · refine j_aload hc dX10_towns_25 rfl ?_
      refine j_ifnull (tgt := 40) hc dX10_towns_27 (by decide) (fun zc2 => ?_) (fun zc2 => ?_)
      · exact absurd zc2 (by simp)
      · refine j_iload_n hc dX10_towns_30 rfl ?_
        refine j_iload_n hc dX10_towns_31 rfl ?_
        refine j_icmp_eq (tgt := 40) hc dX10_towns_32 (by decide) hil him (fun zc3 => ?_) (fun zc3 => ?_)
        · have zll : l = l2 := zc3
          refine j_iconst hc dX10_towns_40 ?_
          exact j_iret hc he dX10_towns_41 rfl (by omega) (by omega) ⟨_, rfl, by rw [if_neg (fun z => absurd zll z.2.1)], by unfold nTow; rw [if_neg (fun z => absurd zll z.2.1)]; exact zB9, zFb8.tr zFb9⟩
        · have zll : l ≠ l2 := zc3
          refine j_iload_n hc dX10_towns_35 rfl ?_
          refine j_iconst hc dX10_towns_36 ?_
          refine j_icmp_ne (tgt := 42) hc dX10_towns_37 (by decide) hir ⟨by omega, by omega⟩ (fun zc4 => ?_) (fun zc4 => ?_)
          · have zs3 : sr ≠ 3 := zc4
            have zg50 := (zF9 (50, 6 * l + sr) (nSp2 (by omega) (by omega) rfl zll)).trans zP8.1
            have zg51 := (zF9 (51, 6 * l + sr) (nSp2 (by omega) (by omega) rfl zll)).trans zP8.2.1
            have zgL : LandAt zq15 l (bD S l) (bE S l) pl8 := LandAt.fr (fun q q0 q1 => zF9 (q, l) (lSp2 q0 q1 zll)) zX8.1
            have zd1 := hD.1
            have zd2 := hD.2.1
            have zd3 := hD2.1
            have zd4 := hD2.2.1
            obtain ⟨zk1, zk2, zk3⟩ := zKw 0 (by omega) (by omega)
            obtain ⟨zk4, zk5, zk6⟩ := zKw 1 (by omega) (by omega)
            refine j_aload hc dX10_towns_42 rfl ?_
            refine j_get hc dX10_towns_44 fX10_240 zg50 rfl ?_
            refine j_get hc dX10_towns_47 fX10_119 zgL.1 rfl ?_
            refine j_aload hc dX10_towns_50 rfl ?_
            refine j_get hc dX10_towns_52 fX10_240 zP9.1 rfl ?_
            refine j_get hc dX10_towns_55 fX10_119 zX9.1.1 rfl ?_
            refine j_icmp_ne (tgt := 72) hc dX10_towns_58 (by decide) ⟨by omega, by omega⟩ ⟨by omega, by omega⟩ (fun zc5 => ?_) (fun zc5 => ?_)
            · have zse : ¬ lSe (bD S l) = lSe (bD S l2) := zc5
              refine j_iconst hc dX10_towns_72 ?_
              exact j_iret hc he dX10_towns_73 rfl (by omega) (by omega) ⟨_, rfl, by rw [if_neg (fun z => absurd z.2.2.2.1 zse)], by unfold nTow; rw [if_neg (fun z => absurd z.2.2.2.1 zse)]; exact zB9, zFb8.tr zFb9⟩
            · have zse : lSe (bD S l) = lSe (bD S l2) := by omega
              refine j_iload hc dX10_towns_61 rfl ?_
              refine j_iconst hc dX10_towns_63 ?_
              refine j_bipush hc dX10_towns_64 (by decide) ?_
              refine j_callS (d' := d - 1) hc dX10_towns_66 sX10_90 (ev_X10_within (by omega) hiro ⟨by omega, by omega⟩ ⟨by omega, by omega⟩) rfl (by omega) (by omega) (by omega) rfl rfl (Nat.le_of_ble_eq_true rfl) (ret1 ?_)
              refine j_if_ne (b := 0) (tgt := 74) hc dX10_towns_69 (by decide) (by split <;> exact ⟨by omega, by omega⟩) (fun zc6 => ?_) (fun zc6 => ?_)
              · have zw1 : 0 ≤ ro ∧ ro ≤ 99 := one_pos zc6
                refine j_iload hc dX10_towns_74 rfl ?_
                refine j_iconst hc dX10_towns_76 ?_
                refine j_bipush hc dX10_towns_77 (by decide) ?_
                refine j_callS (d' := d - 1) hc dX10_towns_79 sX10_90 (ev_X10_within (by omega) hib ⟨by omega, by omega⟩ ⟨by omega, by omega⟩) rfl (by omega) (by omega) (by omega) rfl rfl (Nat.le_of_ble_eq_true rfl) (ret1 ?_)
                refine j_if_eq (b := 0) (tgt := 96) hc dX10_towns_82 (by decide) (by split <;> exact ⟨by omega, by omega⟩) (fun zc7 => ?_) (fun zc7 => ?_)
                · have zw2 : ¬ (0 ≤ b ∧ b ≤ 20) := one_neg zc7
                  refine j_iconst hc dX10_towns_96 ?_
                  exact j_iret hc he dX10_towns_97 rfl (by omega) (by omega) ⟨_, rfl, by rw [if_neg (fun z => zw2 z.2.2.2.2.2.1)], by unfold nTow; rw [if_neg (fun z => zw2 z.2.2.2.2.2.1)]; exact zB9, zFb8.tr zFb9⟩
                · have zw2 : 0 ≤ b ∧ b ≤ 20 := one_pos zc7
                  refine j_iload hc dX10_towns_85 rfl ?_
                  refine j_iconst hc dX10_towns_87 ?_
                  refine j_bipush hc dX10_towns_88 (by decide) ?_
                  refine j_callS (d' := d - 1) hc dX10_towns_90 sX10_90 (ev_X10_within (by omega) hib2 ⟨by omega, by omega⟩ ⟨by omega, by omega⟩) rfl (by omega) (by omega) (by omega) rfl rfl (Nat.le_of_ble_eq_true rfl) (ret1 ?_)
                  refine j_if_ne (b := 0) (tgt := 98) hc dX10_towns_93 (by decide) (by split <;> exact ⟨by omega, by omega⟩) (fun zc8 => ?_) (fun zc8 => ?_)
                  · have zw3 : 0 ≤ b2 ∧ b2 ≤ 20 := one_pos zc8
                    refine j_aload_n hc dX10_towns_98 rfl ?_
                    refine j_get hc dX10_towns_99 fX10_62 zB9.1.1.1 rfl ?_
                    refine j_iconst hc dX10_towns_102 ?_
                    refine j_aald hc dX10_towns_103 zB9.1.1.2.2.2.2.2.2.2 (by decide) (by decide) (by omega) (by omega) ?_
                    refine j_aload hc dX10_towns_104 rfl ?_
                    refine j_aload_n hc dX10_towns_106 rfl ?_
                    refine j_get hc dX10_towns_107 fX10_46 zB9.1.1.1 rfl ?_
                    refine j_iconst hc dX10_towns_110 ?_
                    refine j_aald hc dX10_towns_111 zB9.1.1.2.2.2.1 (by decide) (by decide) (by omega) (by omega) ?_
                    refine j_iload hc dX10_towns_112 rfl ?_
                    obtain ⟨⟨to1, tam, tke, tbr, tst, tpd, to2, tfb, zTw0⟩, uo1, uam, uke, ubr, ust, upd_, uo2, ufb, zTw1⟩ := id zB9.2.2.1
                    refine j_callV (d' := d - 1) hc dX10_towns_114 vX10_279 zTw0 (ev_X9_begin (rn := (14, 0)) (i := 6 * l + sr) (by omega) zTw0) rfl (by omega) (by omega) (by omega) rfl rfl (Nat.le_of_ble_eq_true rfl) (retN fun zq114 zp114 => ?_)
                    obtain ⟨zT0, zFt⟩ := zp114
                    have zB_q114 := (zFt _ (by first | (simp; done) | (simp; omega))).trans zB9.1.1.1
                    have zA13_q114 := (zFt _ (by first | (simp; done) | (simp; omega))).trans zB9.1.1.2.2.2.1
                    have zW0_q114 := (zFt _ (by first | (simp; done) | (simp; omega))).trans zB9.1.1.2.2.2.2.1
                    have zW1_q114 := (zFt _ (by first | (simp; done) | (simp; omega))).trans zB9.1.1.2.2.2.2.2.1
                    have zA15_q114 := (zFt _ (by first | (simp; done) | (simp; omega))).trans zB9.1.1.2.2.2.2.2.2.1
                    have zA18_q114 := (zFt _ (by first | (simp; done) | (simp; omega))).trans zB9.1.1.2.2.2.2.2.2.2
                    have zP9_q114 := (zFt _ (by first | (simp; done) | (simp; omega))).trans zP9.1
                    have zS0_q114 := (zFt _ (by first | (simp; done) | (simp; omega))).trans zB9.2.2.2.1.1
                    have zS021_q114 := (zFt _ (by first | (simp; done) | (simp; omega))).trans zB9.2.2.2.1.2.1
                    have zP8_q114 := (zFt _ (by first | (simp; done) | (simp; omega))).trans zg50
                    have zP51_q114 := (zFt _ (by first | (simp; done) | (simp; omega))).trans zg51
                    have zT1_q114 := (zFt _ (by first | (simp; done) | (simp; omega))).trans zTw1
                    have zP51_9_q114 := (zFt _ (by first | (simp; done) | (simp; omega))).trans zP9.2.1
                    refine j_aload_n hc dX10_towns_117 rfl ?_
                    refine j_get hc dX10_towns_118 fX10_62 zB_q114 rfl ?_
                    refine j_iconst hc dX10_towns_121 ?_
                    refine j_aald hc dX10_towns_122 zA18_q114 (by decide) (by decide) (by omega) (by omega) ?_
                    refine j_aload hc dX10_towns_123 rfl ?_
                    refine j_aload_n hc dX10_towns_125 rfl ?_
                    refine j_get hc dX10_towns_126 fX10_46 zB_q114 rfl ?_
                    refine j_iconst hc dX10_towns_129 ?_
                    refine j_aald hc dX10_towns_130 zA13_q114 (by decide) (by decide) (by omega) (by omega) ?_
                    refine j_iload hc dX10_towns_131 rfl ?_
                    refine j_callV (d' := d - 1) hc dX10_towns_133 vX10_279 zT1_q114 (ev_X9_begin (rn := (14, 1)) (i := 6 * l2 + sr) (by omega) zT1_q114) rfl (by omega) (by omega) (by omega) rfl rfl (Nat.le_of_ble_eq_true rfl) (retN fun zq133 zp133 => ?_)
                    obtain ⟨zT1_, zFu⟩ := zp133
                    have zB_q133 := (zFu _ (by first | (simp; done) | (simp; omega))).trans zB_q114
                    have zA13_q133 := (zFu _ (by first | (simp; done) | (simp; omega))).trans zA13_q114
                    have zW0_q133 := (zFu _ (by first | (simp; done) | (simp; omega))).trans zW0_q114
                    have zW1_q133 := (zFu _ (by first | (simp; done) | (simp; omega))).trans zW1_q114
                    have zA15_q133 := (zFu _ (by first | (simp; done) | (simp; omega))).trans zA15_q114
                    have zA18_q133 := (zFu _ (by first | (simp; done) | (simp; omega))).trans zA18_q114
                    have zP9_q133 := (zFu _ (by first | (simp; done) | (simp; omega))).trans zP9_q114
                    have zS0_q133 := (zFu _ (by first | (simp; done) | (simp; omega))).trans zS0_q114
                    have zS021_q133 := (zFu _ (by first | (simp; done) | (simp; omega))).trans zS021_q114
                    have zP8_q133 := (zFu _ (by first | (simp; done) | (simp; omega))).trans zP8_q114
                    have zP51_q133 := (zFu _ (by first | (simp; done) | (simp; omega))).trans zP51_q114
                    have zT0_q133 := (zFu _ (by first | (simp; done) | (simp; omega))).trans zT0
                    have zP51_9_q133 := (zFu _ (by first | (simp; done) | (simp; omega))).trans zP51_9_q114
                    refine j_aload_n hc dX10_towns_136 rfl ?_
                    refine j_get hc dX10_towns_137 fX10_72 zB_q133 rfl ?_
                    refine j_aload_n hc dX10_towns_140 rfl ?_
                    refine j_get hc dX10_towns_141 fX10_62 zB_q133 rfl ?_
                    refine j_iconst hc dX10_towns_144 ?_
                    refine j_aald hc dX10_towns_145 zA18_q133 (by decide) (by decide) (by omega) (by omega) ?_
                    refine j_aload_n hc dX10_towns_146 rfl ?_
                    refine j_get hc dX10_towns_147 fX10_62 zB_q133 rfl ?_
                    refine j_iconst hc dX10_towns_150 ?_
                    refine j_aald hc dX10_towns_151 zA18_q133 (by decide) (by decide) (by omega) (by omega) ?_
                    refine j_iload hc dX10_towns_152 rfl ?_
                    refine j_aload_n hc dX10_towns_154 rfl ?_
                    refine j_get hc dX10_towns_155 fX10_49 zB_q133 rfl ?_
                    refine j_iconst hc dX10_towns_158 ?_
                    refine j_iald hc dX10_towns_159 zA15_q133 (by omega) (by omega) ?_
                    refine j_aload_n hc dX10_towns_160 rfl ?_
                    refine j_get hc dX10_towns_161 fX10_49 zB_q133 rfl ?_
                    refine j_iconst hc dX10_towns_164 ?_
                    refine j_iald hc dX10_towns_165 zA15_q133 (by omega) (by omega) ?_
                    refine j_mmin hc dX10_towns_166 mX10_231 mo_min ⟨by omega, by omega⟩ ⟨by omega, by omega⟩ (by omega) (by omega) rfl (by omega) (Nat.le_of_ble_eq_true rfl) ?_
                    refine j_iload hc dX10_towns_169 rfl ?_
                    have zmi : min (bRl S 0) (bRl S 1) = (((miR S).toNat : Nat) : Int) := by unfold miR; omega
                    have zmi4 : (miR S).toNat ≤ 40 := by unfold miR; omega
                    rw [zmi]
                    refine j_callV (d' := d - 1) hc dX10_towns_171 vX10_282 zS0_q133 (ev_X7_tellOfTwo (rn := (14, 0)) (rn2 := (14, 1)) (kq := kqS S l sr n) (kq2 := kqS S l2 sr n) (N := 560) (m := (miR S).toNat) (by omega) (LandAt.fr (fun q q0 q1 => (zFu (q, l) (by simp; omega)).trans (zFt (q, l) (by simp; omega))) zgL) (LandAt.fr (fun q q0 q1 => (zFu (q, l2) (by simp; omega)).trans (zFt (q, l2) (by simp; omega))) zX9.1) hD hD2 zP8_q133 zP9_q133 zse rfl rfl (by omega) zmi4 zrow8 (kqA zK hl0 hl1 hn1) zk3 zrow9 (kqA zK hm0 hm1 hn1) zk6 zw2.1 zw2.2 zw3.1 zw3.2 hn1 hn hsr0 hsr1 hsr0 hsr1 (by decide) zw1.1 zw1.2 zT0_q133 zT1_ zP51_q133 zP51_9_q133 zW0_q133 zW1_q133 zS0_q133 zS021_q133) rfl (by omega) (by omega) (by omega) rfl rfl (Nat.le_of_ble_eq_true rfl) (retN fun zq171 zp171 => ?_)
                    obtain ⟨zy1, zy2, ⟨ya1, ya2, ya3, ya4, ya5, ya6, zy3⟩, ⟨yb1, yb2, yb3, yb4, yb5, yb6, zy4⟩, zy5⟩ := zp171
                    have zyB := (zy5 (0, 0) (by simp)).trans zB_q133
                    refine j_aload_n hc dX10_towns_174 rfl ?_
                    refine j_get hc dX10_towns_175 fX10_72 zyB rfl ?_
                    refine j_get hc dX10_towns_178 fX10_278 zy1 rfl ?_
                    exact j_iret hc he dX10_towns_181 rfl (by omega) (by omega) (by
                      have zF3 : Fr (fun z => 19 ≤ z.1 ∧ z.1 ≤ 21) zq15 zq171 := ((zFt.mono fun z zz => by rw [zz]; simp).tr (zFu.mono fun z zz => by rw [zz]; simp)).tr (zy5.mono fun z zz => by rcases zz with (rfl | rfl) | rfl | rfl <;> simp)
                      have zz := zB9.story (c := (twS S l l2 sr n b b2 ro).1) (t := 2) (m := miR S) (p := 0) zF3 ⟨⟨_, _, _, _, _, _, _, _, zy3⟩, _, _, _, _, _, _, _, _, zy4⟩ (zy1.trans (by rw [← zmi]; rfl)) zy2 (by obtain ⟨tc, se, sp, f, q1, q2⟩ := zB9.2.2.2.1.2.2; exact ⟨tc, se, sp, f, (zy5 _ (by simp)).trans ((zFu _ (by simp)).trans ((zFt _ (by simp)).trans q1)), (zy5 _ (by simp)).trans ((zFu _ (by simp)).trans ((zFt _ (by simp)).trans q2))⟩) ⟨by omega, by omega⟩ ⟨by unfold miR; omega, by unfold miR; omega⟩
                      exact ⟨_, rfl, by rw [if_pos ⟨⟨hp1, hp2⟩, zll, zs3, zse, zw1, zw2, zw3⟩, ← zmi]; rfl, by unfold nTow; rw [if_pos ⟨⟨hp1, hp2⟩, zll, zs3, zse, zw1, zw2, zw3⟩]; exact zz.1, (zFb8.tr zFb9).tr zz.2⟩)
                  · have zw3 : ¬ (0 ≤ b2 ∧ b2 ≤ 20) := one_neg zc8
                    refine j_iconst hc dX10_towns_96 ?_
                    exact j_iret hc he dX10_towns_97 rfl (by omega) (by omega) ⟨_, rfl, by rw [if_neg (fun z => zw3 z.2.2.2.2.2.2)], by unfold nTow; rw [if_neg (fun z => zw3 z.2.2.2.2.2.2)]; exact zB9, zFb8.tr zFb9⟩
              · have zw1 : ¬ (0 ≤ ro ∧ ro ≤ 99) := one_neg zc6
                refine j_iconst hc dX10_towns_72 ?_
                exact j_iret hc he dX10_towns_73 rfl (by omega) (by omega) ⟨_, rfl, by rw [if_neg (fun z => zw1 z.2.2.2.2.1)], by unfold nTow; rw [if_neg (fun z => zw1 z.2.2.2.2.1)]; exact zB9, zFb8.tr zFb9⟩
          · have zs3 : ¬ sr ≠ 3 := fun z => absurd zc4 (by omega)
            refine j_iconst hc dX10_towns_40 ?_
            exact j_iret hc he dX10_towns_41 rfl (by omega) (by omega) ⟨_, rfl, by rw [if_neg (fun z => zs3 z.2.2.1)], by unfold nTow; rw [if_neg (fun z => zs3 z.2.2.1)]; exact zB9, zFb8.tr zFb9⟩
  have hp1_ := hp1
  by_cases hp3 : paV S l sr n
  · skip
    have hp1 := hp3
    obtain ⟨hvl, ⟨hn1, hn⟩, hsr0, hsr1⟩ := id hp1
    obtain ⟨hl0, hl1⟩ := id hvl
    obtain ⟨hD, hE, hyr, hyo⟩ := zKl l hl0 hl1
    refine Ev.mk (by decide +kernel) [_, _, _, _, _, _, _, _, _, _] rfl (Nat.le_of_ble_eq_true rfl) (fun w hc he => ?_)
    refine j_aload_n hc dX10_towns_0 rfl ?_
    refine j_iload_n hc dX10_towns_1 rfl ?_
    refine j_iload_n hc dX10_towns_2 rfl ?_
    refine j_iload hc dX10_towns_3 rfl ?_
    refine j_callV (d' := d - 1) hc dX10_towns_5 vX10_247 zb0 (ev_X10_planForAllSeasons_ok (by omega) hB hp3) rfl (by omega) (by omega) (by omega) rfl rfl (Nat.le_of_ble_eq_true rfl) (retE fun zv5 zq5 zp5 => ?_)
    obtain ⟨zv8, zPl8⟩ := zp5
    subst zv8
    have zB8 := zPl8.barn hB hl0 hl1 (by omega) (by omega)
    obtain ⟨pl8, wf8, kf8, bf8, lf8, wl8, zX8, zH8, zn8, zR8, zF8⟩ := id zPl8
    have zsrj8 : srj sr = sr := by unfold srj; rw [if_neg (by omega)]
    have zP8 := zH8.2.2.2.1
    rw [zsrj8] at zP8
    have zV8 := zP8.2.2.2.2.2.2
    have zrow8 : ∀ q b : Int, 0 ≤ q → q < lSe (bD S l) → 0 ≤ b → b ≤ 40 → kf8 (ceS n q + b) = kqS S l sr n q b := fun q b q0 q1 b0 b1 => (PlV.row hD zV8 hn1 q0 q1 (zn8 q q0 q1) b0 b1).1
    have zFb8 := zF8.mono fun z zz => isLo_ba (isSp_lo (S := S) hsr0 (by omega) zz)
    refine j_astore (L' := [_, _, _, _, _, _, _, _, _, _]) hc dX10_towns_8 (Nat.le_of_ble_eq_true rfl) rfl ?_
    refine j_aload_n hc dX10_towns_10 rfl ?_
    refine j_iload_n hc dX10_towns_11 rfl ?_
    refine j_iload_n hc dX10_towns_12 rfl ?_
    refine j_iload hc dX10_towns_13 rfl ?_
    refine j_callV (d' := d - 1) hc dX10_towns_15 vX10_247 zB8.1.1.1 (ev_X10_planForAllSeasons_no (by omega) zB8 him hir hin (fun z => hp1_ ⟨hp3, z⟩)) rfl (by omega) (by omega) (by omega) rfl rfl (Nat.le_of_ble_eq_true rfl) (ret1 ?_)
    refine j_astore (L' := [_, _, _, _, _, _, _, _, _, _]) hc dX10_towns_18 (Nat.le_of_ble_eq_true rfl) rfl ?_
    refine j_aload hc dX10_towns_20 rfl ?_
    refine j_ifnull (tgt := 40) hc dX10_towns_22 (by decide) (fun zc1 => ?_) (fun zc1 => ?_)
    · exact absurd zc1 (by simp)
    · refine j_aload hc dX10_towns_25 rfl ?_
      refine j_ifnull (tgt := 40) hc dX10_towns_27 (by decide) (fun zc2 => ?_) (fun zc2 => ?_)
      · refine j_iconst hc dX10_towns_40 ?_
        exact j_iret hc he dX10_towns_41 rfl (by omega) (by omega) ⟨_, rfl, by rw [if_neg (fun z => hp1_ z.1)], by unfold nTow; rw [if_neg (fun z => hp1_ z.1)]; exact zB8, zFb8⟩
      · exact absurd rfl zc2
  by_cases hp4 : paV S l2 sr n
  · skip
    have hp2 := hp4
    obtain ⟨hvm, ⟨hn1, hn⟩, hsr0, hsr1⟩ := id hp2
    obtain ⟨hm0, hm1⟩ := id hvm
    obtain ⟨hD2, hE2, hyr2, hyo2⟩ := zKl l2 hm0 hm1
    refine Ev.mk (by decide +kernel) [_, _, _, _, _, _, _, _, _, _] rfl (Nat.le_of_ble_eq_true rfl) (fun w hc he => ?_)
    refine j_aload_n hc dX10_towns_0 rfl ?_
    refine j_iload_n hc dX10_towns_1 rfl ?_
    refine j_iload_n hc dX10_towns_2 rfl ?_
    refine j_iload hc dX10_towns_3 rfl ?_
    refine j_callV (d' := d - 1) hc dX10_towns_5 vX10_247 zb0 (ev_X10_planForAllSeasons_no (by omega) hB hil hir hin hp3) rfl (by omega) (by omega) (by omega) rfl rfl (Nat.le_of_ble_eq_true rfl) (ret1 ?_)
    refine j_astore (L' := [_, _, _, _, _, _, _, _, _, _]) hc dX10_towns_8 (Nat.le_of_ble_eq_true rfl) rfl ?_
    refine j_aload_n hc dX10_towns_10 rfl ?_
    refine j_iload_n hc dX10_towns_11 rfl ?_
    refine j_iload_n hc dX10_towns_12 rfl ?_
    refine j_iload hc dX10_towns_13 rfl ?_
    refine j_callV (d' := d - 1) hc dX10_towns_15 vX10_247 zb0 (ev_X10_planForAllSeasons_ok (by omega) hB hp4) rfl (by omega) (by omega) (by omega) rfl rfl (Nat.le_of_ble_eq_true rfl) (retE fun zv15 zq15 zp15 => ?_)
    obtain ⟨zv9, zPl9⟩ := zp15
    subst zv9
    have zB9 := zPl9.barn hB hm0 hm1 (by omega) (by omega)
    obtain ⟨pl9, wf9, kf9, bf9, lf9, wl9, zX9, zH9, zn9, zR9, zF9⟩ := id zPl9
    have zsrj9 : srj sr = sr := by unfold srj; rw [if_neg (by omega)]
    have zP9 := zH9.2.2.2.1
    rw [zsrj9] at zP9
    have zV9 := zP9.2.2.2.2.2.2
    have zrow9 : ∀ q b : Int, 0 ≤ q → q < lSe (bD S l2) → 0 ≤ b → b ≤ 40 → kf9 (ceS n q + b) = kqS S l2 sr n q b := fun q b q0 q1 b0 b1 => (PlV.row hD2 zV9 hn1 q0 q1 (zn9 q q0 q1) b0 b1).1
    have zFb9 := zF9.mono fun z zz => isLo_ba (isSp_lo (S := S) hsr0 (by omega) zz)
    refine j_astore (L' := [_, _, _, _, _, _, _, _, _, _]) hc dX10_towns_18 (Nat.le_of_ble_eq_true rfl) rfl ?_
    refine j_aload hc dX10_towns_20 rfl ?_
    refine j_ifnull (tgt := 40) hc dX10_towns_22 (by decide) (fun zc1 => ?_) (fun zc1 => ?_)
    · refine j_iconst hc dX10_towns_40 ?_
      exact j_iret hc he dX10_towns_41 rfl (by omega) (by omega) ⟨_, rfl, by rw [if_neg (fun z => hp3 z.1.1)], by unfold nTow; rw [if_neg (fun z => hp3 z.1.1)]; exact zB9, zFb9⟩
    · exact absurd rfl zc1
  refine Ev.mk (by decide +kernel) [_, _, _, _, _, _, _, _, _, _] rfl (Nat.le_of_ble_eq_true rfl) (fun w hc he => ?_)
  refine j_aload_n hc dX10_towns_0 rfl ?_
  refine j_iload_n hc dX10_towns_1 rfl ?_
  refine j_iload_n hc dX10_towns_2 rfl ?_
  refine j_iload hc dX10_towns_3 rfl ?_
  refine j_callV (d' := d - 1) hc dX10_towns_5 vX10_247 zb0 (ev_X10_planForAllSeasons_no (by omega) hB hil hir hin hp3) rfl (by omega) (by omega) (by omega) rfl rfl (Nat.le_of_ble_eq_true rfl) (ret1 ?_)
  refine j_astore (L' := [_, _, _, _, _, _, _, _, _, _]) hc dX10_towns_8 (Nat.le_of_ble_eq_true rfl) rfl ?_
  refine j_aload_n hc dX10_towns_10 rfl ?_
  refine j_iload_n hc dX10_towns_11 rfl ?_
  refine j_iload_n hc dX10_towns_12 rfl ?_
  refine j_iload hc dX10_towns_13 rfl ?_
  refine j_callV (d' := d - 1) hc dX10_towns_15 vX10_247 zb0 (ev_X10_planForAllSeasons_no (by omega) hB him hir hin hp4) rfl (by omega) (by omega) (by omega) rfl rfl (Nat.le_of_ble_eq_true rfl) (ret1 ?_)
  refine j_astore (L' := [_, _, _, _, _, _, _, _, _, _]) hc dX10_towns_18 (Nat.le_of_ble_eq_true rfl) rfl ?_
  refine j_aload hc dX10_towns_20 rfl ?_
  refine j_ifnull (tgt := 40) hc dX10_towns_22 (by decide) (fun zc1 => ?_) (fun zc1 => ?_)
  · refine j_iconst hc dX10_towns_40 ?_
    exact j_iret hc he dX10_towns_41 rfl (by omega) (by omega) ⟨_, rfl, by rw [if_neg (fun z => hp3 z.1.1)], by unfold nTow; rw [if_neg (fun z => hp3 z.1.1)]; exact hB, Fr.rf _ _⟩
  · exact absurd rfl zc1
