/-! ===== the reference reads numbers ===== -/
def SmR (s s' : Int → Int) : Prop := ∀ k : Int, k ≠ 3 → k ≠ 4 → s' k = s k
theorem SmR.rf (s : Int → Int) : SmR s s := fun _ _ _ => rfl
theorem SmR.f3 {s s' : Int → Int} {v : Int} (h : SmR s s') : SmR s (fu s' 3 v) := fun k h3 h4 => (fu_ne h3).trans (h k h3 h4)
theorem SmR.f4 {s s' : Int → Int} {v : Int} (h : SmR s s') : SmR s (fu s' 4 v) := fun k h3 h4 => (fu_ne h4).trans (h k h3 h4)
theorem SmR.rd {s s' : Int → Int} {A : MAs} {b : Int → Int} {n : Int} (h : SmR s s') (hT : RdM s A b n) : RdM s' A b n := ⟨(h 2 (by omega) (by omega)).trans hT.1, hT.2⟩
theorem SmR.tr {s s' s2 : Int → Int} (h : SmR s s') (h2 : SmR s' s2) : SmR s s2 := fun k h3 h4 => (h2 k h3 h4).trans (h k h3 h4)
abbrev nuB (A : MAs) (l but x : Int) : Prop := x = but ∨ (l ≠ -1 ∧ A 12 (4 * l + x) = 4)
/-- what number comes to: r is the class's reading -/
def NuM (A : MAs) (b : Int → Int) (n : Int) (r : Int × Int × Int) (lo hi l but x i' w' : Int) : Prop := (x = lo ∨ (lo ≤ x ∧ x ≤ hi ∧ 0 ≤ x)) ∧ (r.1 ≠ -1 → w' = r.1) ∧ (r.1 = -1 → (nuB A l but r.2.2 → w' = r.2.1 - 1) ∧ (¬ nuB A l but r.2.2 → x = r.2.2 ∧ ((w' = -1 ∧ i' = r.2.1 ∧ ¬ dgS (hrS b n r.2.1)) ∨ (w' = r.2.1 ∧ dgS (hrS b n r.2.1)))))
def NuP (s : Int → Int) (A : MAs) (b : Int → Int) (n : Int) (r : Int × Int × Int) (lo hi l but : Int) (h : AH) : Option AV → AH → Prop := pe fun v h' => ∃ (x i' w' : Int) (s' : Int → Int), v = vI x ∧ NuM A b n r lo hi l but x i' w' ∧ (0 ≤ i' ∧ i' ≤ n) ∧ (-1 ≤ w' ∧ w' ≤ n) ∧ MdS h' s' A ∧ s' 3 = i' ∧ s' 4 = w' ∧ SmR s s' ∧ Fr (fun z => z = (70, 0)) h h'
set_option maxRecDepth 100000 in
set_option maxHeartbeats 4000000 in
theorem tl_X11_number {k : WC} {d : Nat} {w : MC} {h0 h : AH} {s : Int → Int} {A : MAs} {b : Int → Int} {n : Int} {lo hi l but : Int} {s1 : Int → Int} {q v : Int} (hd : 3 ≤ d) (hT : RdM s A b n) (hlo : inI lo) (hhi : inI hi) (hlo0 : 0 ≤ lo) (hbut : inI but) (hl : l = -1 ∨ (0 ≤ l ∧ l ≤ 6 ∧ lo = 0 ∧ hi ≤ 3 ∧ ∀ q : Int, 0 ≤ q → q ≤ 3 → inI (A 12 (4 * l + q)))) (hv0 : 0 ≤ v) (hv1 : v ≤ 99) (hq0 : 1 ≤ q) (hq1 : q ≤ n) (hm1 : SmR s s1) (h13 : s1 3 = q) (h14 : s1 4 = -1) (hS : MdS h s1 A) (hF : Fr (fun z => z = (70, 0)) h0 h) (hc : Cx w k d 0 0 mdX11_number) (he : Ends w 0 0 (NuP s A b n (nuR lo hi q v) lo hi l but h0)) : J w 0 0 89 [some (vR (70, 0)), some (vI lo), some (vI hi), some (vI l), some (vI but), some (vI v)] [] h := by
  have hn := hT.2.1
  have zhb := hrM_b hT (show 0 ≤ q by omega)
  have zhs := hrM_S hT (show 0 ≤ q by omega)
  unfold nuR at he
  by_cases zin : lo ≤ v ∧ v ≤ hi
  · rw [if_pos zin] at he
    by_cases hnb : nuB A l but v
    · skip
      refine j_iload hc dX11_number_89 rfl ?_
      refine j_iload_n hc dX11_number_91 rfl ?_
      refine j_iload_n hc dX11_number_92 rfl ?_
      refine j_callS (d' := d - 1) hc dX11_number_93 sX11_145 (ev_X11_in (by omega) ⟨by omega, by omega⟩ hlo hhi) rfl (by omega) (by omega) (by omega) rfl rfl (Nat.le_of_ble_eq_true rfl) (ret1 ?_)
      refine j_if_eq (b := 0) (tgt := 126) hc dX11_number_96 (by decide) (by split <;> exact ⟨by omega, by omega⟩) (fun zc1 => ?_) (fun zc1 => ?_)
      · exact absurd zin (one_neg zc1)
      · refine j_iload hc dX11_number_99 rfl ?_
        refine j_iload hc dX11_number_101 rfl ?_
        refine j_icmp_eq (tgt := 126) hc dX11_number_103 (by decide) ⟨by omega, by omega⟩ hbut (fun zc2 => ?_) (fun zc2 => ?_)
        · refine j_aload_n hc dX11_number_126 rfl ?_
          refine j_dup hc dX11_number_127 rfl ?_
          refine j_get hc dX11_number_128 fX11_125 hS.1 rfl ?_
          rw [h13]
          refine j_iconst hc dX11_number_131 ?_
          refine j_isub hc dX11_number_132 ?_
          refine j_put  hc dX11_number_133 pX11_125 hS.1 rfl mset_3 ?_
          generalize ezh1 : up _ _ _ = zh1
          have zzmod_zh1 := MdS.pf ezh1 hS
          refine j_aload_n hc dX11_number_136 rfl ?_
          refine j_callV (d' := d - 1) hc dX11_number_137 vX11_142 zzmod_zh1.1 (ev_X11_bad (by omega) zzmod_zh1 (by show inI (q - 1); exact ⟨by omega, by omega⟩) (by show inI (s1 4); exact ⟨by omega, by omega⟩)) rfl (by omega) (by omega) (by omega) rfl rfl (Nat.le_of_ble_eq_true rfl) (retN fun zq137 zp137 => ?_)
          obtain ⟨zS1, zF1⟩ := zp137
          refine j_iload_n hc dX11_number_140 rfl ?_
          exact j_iret hc he dX11_number_141 rfl (by omega) (by omega) ⟨_, rfl, lo, q - 1, q - 1, _, rfl, ⟨Or.inl rfl, fun z => absurd rfl z, fun _ => ⟨fun _ => rfl, fun z => absurd hnb z⟩⟩, ⟨by omega, by omega⟩, ⟨by omega, by omega⟩, zS1, rfl, (by show (if s1 4 = -1 then q - 1 else s1 4) = q - 1; rw [if_pos h14]), hm1.f3.f4, Fr.tr ((by rw [← ezh1]; exact Fr.push (hF) rfl)) (zF1.mono fun z zz => zz)⟩
        · refine j_iload_n hc dX11_number_106 rfl ?_
          refine j_iconst hc dX11_number_107 ?_
          refine j_icmp_eq (tgt := 142) hc dX11_number_108 (by decide) (by exact ⟨by omega, by omega⟩) ⟨by omega, by omega⟩ (fun zc3 => ?_) (fun zc3 => ?_)
          · exact absurd hnb (fun z => by rcases z with z | z; (· exact absurd z (by assumption)); exact z.1 zc3)
          · have zl1 : 0 ≤ l ∧ l ≤ 6 ∧ lo = 0 ∧ hi ≤ 3 ∧ ∀ q : Int, 0 ≤ q → q ≤ 3 → inI (A 12 (4 * l + q)) := by rcases hl with z | z; (· exact absurd z zc3); exact z
            obtain ⟨zl0, zl6, zlo, zhi3, zA⟩ := zl1
            refine j_aload_n hc dX11_number_111 rfl ?_
            refine j_get hc dX11_number_112 fX11_31 hS.1 rfl ?_
            refine j_iconst hc dX11_number_115 ?_
            refine j_iload_n hc dX11_number_116 rfl ?_
            refine j_imul hc dX11_number_117 ?_
            refine j_iload hc dX11_number_118 rfl ?_
            refine j_iadd hc dX11_number_120 ?_
            refine j_iald hc dX11_number_121 hS.2.2.2.2.2.2.2.2.1 (by omega) (by omega) ?_
            refine j_iconst hc dX11_number_122 ?_
            refine j_icmp_ne (tgt := 142) hc dX11_number_123 (by decide) (zA v (by omega) (by omega)) ⟨by omega, by omega⟩ (fun zc4 => ?_) (fun zc4 => ?_)
            · exact absurd hnb (fun z => by rcases z with z | z; (· exact absurd z (by assumption)); exact zc4 z.2)
            · refine j_aload_n hc dX11_number_126 rfl ?_
              refine j_dup hc dX11_number_127 rfl ?_
              refine j_get hc dX11_number_128 fX11_125 hS.1 rfl ?_
              rw [h13]
              refine j_iconst hc dX11_number_131 ?_
              refine j_isub hc dX11_number_132 ?_
              refine j_put  hc dX11_number_133 pX11_125 hS.1 rfl mset_3 ?_
              generalize ezh2 : up _ _ _ = zh2
              have zzmod_zh2 := MdS.pf ezh2 hS
              refine j_aload_n hc dX11_number_136 rfl ?_
              refine j_callV (d' := d - 1) hc dX11_number_137 vX11_142 zzmod_zh2.1 (ev_X11_bad (by omega) zzmod_zh2 (by show inI (q - 1); exact ⟨by omega, by omega⟩) (by show inI (s1 4); exact ⟨by omega, by omega⟩)) rfl (by omega) (by omega) (by omega) rfl rfl (Nat.le_of_ble_eq_true rfl) (retN fun zq137 zp137 => ?_)
              obtain ⟨zS1, zF1⟩ := zp137
              refine j_iload_n hc dX11_number_140 rfl ?_
              exact j_iret hc he dX11_number_141 rfl (by omega) (by omega) ⟨_, rfl, lo, q - 1, q - 1, _, rfl, ⟨Or.inl rfl, fun z => absurd rfl z, fun _ => ⟨fun _ => rfl, fun z => absurd hnb z⟩⟩, ⟨by omega, by omega⟩, ⟨by omega, by omega⟩, zS1, rfl, (by show (if s1 4 = -1 then q - 1 else s1 4) = q - 1; rw [if_pos h14]), hm1.f3.f4, Fr.tr ((by rw [← ezh2]; exact Fr.push (hF) rfl)) (zF1.mono fun z zz => zz)⟩
    · skip
      refine j_iload hc dX11_number_89 rfl ?_
      refine j_iload_n hc dX11_number_91 rfl ?_
      refine j_iload_n hc dX11_number_92 rfl ?_
      refine j_callS (d' := d - 1) hc dX11_number_93 sX11_145 (ev_X11_in (by omega) ⟨by omega, by omega⟩ hlo hhi) rfl (by omega) (by omega) (by omega) rfl rfl (Nat.le_of_ble_eq_true rfl) (ret1 ?_)
      refine j_if_eq (b := 0) (tgt := 126) hc dX11_number_96 (by decide) (by split <;> exact ⟨by omega, by omega⟩) (fun zc1 => ?_) (fun zc1 => ?_)
      · exact absurd zin (one_neg zc1)
      · refine j_iload hc dX11_number_99 rfl ?_
        refine j_iload hc dX11_number_101 rfl ?_
        refine j_icmp_eq (tgt := 126) hc dX11_number_103 (by decide) ⟨by omega, by omega⟩ hbut (fun zc2 => ?_) (fun zc2 => ?_)
        · exact absurd (Or.inl zc2) hnb
        · refine j_iload_n hc dX11_number_106 rfl ?_
          refine j_iconst hc dX11_number_107 ?_
          refine j_icmp_eq (tgt := 142) hc dX11_number_108 (by decide) (by exact ⟨by omega, by omega⟩) ⟨by omega, by omega⟩ (fun zc3 => ?_) (fun zc3 => ?_)
          · refine j_aload_n hc dX11_number_142 rfl ?_
            refine j_callV (d' := d - 1) hc dX11_number_143 vX11_128 hS.1 (ev_X11_here (by omega) hS (hm1.rd hT) (by show 0 ≤ s1 3; omega) (by show s1 3 ≤ 1000; omega)) rfl (by omega) (by omega) (by omega) rfl rfl (Nat.le_of_ble_eq_true rfl) (ret1 ?_)
            rw [h13]
            refine j_callS (d' := d - 1) hc dX11_number_146 sX11_138 (ev_X11_isDigit (by omega) ⟨by omega, by omega⟩) rfl (by omega) (by omega) (by omega) rfl rfl (Nat.le_of_ble_eq_true rfl) (ret1 ?_)
            refine j_if_eq (b := 0) (tgt := 156) hc dX11_number_149 (by decide) (by split <;> exact ⟨by omega, by omega⟩) (fun zc4 => ?_) (fun zc4 => ?_)
            · have zdg := one_neg zc4
              refine j_iload hc dX11_number_156 rfl ?_
              exact j_iret hc he dX11_number_158 rfl (by omega) (by omega) ⟨_, rfl, v, q, -1, _, rfl, ⟨Or.inr ⟨zin.1, zin.2, by omega⟩, fun z => absurd rfl z, fun _ => ⟨fun z => absurd z hnb, fun _ => ⟨rfl, Or.inl ⟨rfl, rfl, by show ¬ dgS (hrS b n q); omega⟩⟩⟩⟩, ⟨by omega, by omega⟩, ⟨by omega, by omega⟩, hS, h13, h14, hm1, hF⟩
            · have zdg := one_pos zc4
              refine j_aload_n hc dX11_number_152 rfl ?_
              refine j_callV (d' := d - 1) hc dX11_number_153 vX11_142 hS.1 (ev_X11_bad (by omega) hS (by show inI (s1 3); exact ⟨by omega, by omega⟩) (by show inI (s1 4); exact ⟨by omega, by omega⟩)) rfl (by omega) (by omega) (by omega) rfl rfl (Nat.le_of_ble_eq_true rfl) (retN fun zq153 zp153 => ?_)
              obtain ⟨zS2, zF2⟩ := zp153
              refine j_iload hc dX11_number_156 rfl ?_
              exact j_iret hc he dX11_number_158 rfl (by omega) (by omega) ⟨_, rfl, v, q, q, _, rfl, ⟨Or.inr ⟨zin.1, zin.2, by omega⟩, fun z => absurd rfl z, fun _ => ⟨fun z => absurd z hnb, fun _ => ⟨rfl, Or.inr ⟨rfl, by show dgS (hrS b n q); omega⟩⟩⟩⟩, ⟨by omega, by omega⟩, ⟨by omega, by omega⟩, zS2, h13, (by show (if s1 4 = -1 then s1 3 else s1 4) = q; rw [if_pos h14, h13]), hm1.f4, Fr.tr (hF) (zF2.mono fun z zz => zz)⟩
          · have zl1 : 0 ≤ l ∧ l ≤ 6 ∧ lo = 0 ∧ hi ≤ 3 ∧ ∀ q : Int, 0 ≤ q → q ≤ 3 → inI (A 12 (4 * l + q)) := by rcases hl with z | z; (· exact absurd z zc3); exact z
            obtain ⟨zl0, zl6, zlo, zhi3, zA⟩ := zl1
            refine j_aload_n hc dX11_number_111 rfl ?_
            refine j_get hc dX11_number_112 fX11_31 hS.1 rfl ?_
            refine j_iconst hc dX11_number_115 ?_
            refine j_iload_n hc dX11_number_116 rfl ?_
            refine j_imul hc dX11_number_117 ?_
            refine j_iload hc dX11_number_118 rfl ?_
            refine j_iadd hc dX11_number_120 ?_
            refine j_iald hc dX11_number_121 hS.2.2.2.2.2.2.2.2.1 (by omega) (by omega) ?_
            refine j_iconst hc dX11_number_122 ?_
            refine j_icmp_ne (tgt := 142) hc dX11_number_123 (by decide) (zA v (by omega) (by omega)) ⟨by omega, by omega⟩ (fun zc5 => ?_) (fun zc5 => ?_)
            · refine j_aload_n hc dX11_number_142 rfl ?_
              refine j_callV (d' := d - 1) hc dX11_number_143 vX11_128 hS.1 (ev_X11_here (by omega) hS (hm1.rd hT) (by show 0 ≤ s1 3; omega) (by show s1 3 ≤ 1000; omega)) rfl (by omega) (by omega) (by omega) rfl rfl (Nat.le_of_ble_eq_true rfl) (ret1 ?_)
              rw [h13]
              refine j_callS (d' := d - 1) hc dX11_number_146 sX11_138 (ev_X11_isDigit (by omega) ⟨by omega, by omega⟩) rfl (by omega) (by omega) (by omega) rfl rfl (Nat.le_of_ble_eq_true rfl) (ret1 ?_)
              refine j_if_eq (b := 0) (tgt := 156) hc dX11_number_149 (by decide) (by split <;> exact ⟨by omega, by omega⟩) (fun zc6 => ?_) (fun zc6 => ?_)
              · have zdg := one_neg zc6
                refine j_iload hc dX11_number_156 rfl ?_
                exact j_iret hc he dX11_number_158 rfl (by omega) (by omega) ⟨_, rfl, v, q, -1, _, rfl, ⟨Or.inr ⟨zin.1, zin.2, by omega⟩, fun z => absurd rfl z, fun _ => ⟨fun z => absurd z hnb, fun _ => ⟨rfl, Or.inl ⟨rfl, rfl, by show ¬ dgS (hrS b n q); omega⟩⟩⟩⟩, ⟨by omega, by omega⟩, ⟨by omega, by omega⟩, hS, h13, h14, hm1, hF⟩
              · have zdg := one_pos zc6
                refine j_aload_n hc dX11_number_152 rfl ?_
                refine j_callV (d' := d - 1) hc dX11_number_153 vX11_142 hS.1 (ev_X11_bad (by omega) hS (by show inI (s1 3); exact ⟨by omega, by omega⟩) (by show inI (s1 4); exact ⟨by omega, by omega⟩)) rfl (by omega) (by omega) (by omega) rfl rfl (Nat.le_of_ble_eq_true rfl) (retN fun zq153 zp153 => ?_)
                obtain ⟨zS2, zF2⟩ := zp153
                refine j_iload hc dX11_number_156 rfl ?_
                exact j_iret hc he dX11_number_158 rfl (by omega) (by omega) ⟨_, rfl, v, q, q, _, rfl, ⟨Or.inr ⟨zin.1, zin.2, by omega⟩, fun z => absurd rfl z, fun _ => ⟨fun z => absurd z hnb, fun _ => ⟨rfl, Or.inr ⟨rfl, by show dgS (hrS b n q); omega⟩⟩⟩⟩, ⟨by omega, by omega⟩, ⟨by omega, by omega⟩, zS2, h13, (by show (if s1 4 = -1 then s1 3 else s1 4) = q; rw [if_pos h14, h13]), hm1.f4, Fr.tr (hF) (zF2.mono fun z zz => zz)⟩
            · exact absurd (Or.inr ⟨by assumption, by omega⟩) hnb
  · rw [if_neg zin] at he
    refine j_iload hc dX11_number_89 rfl ?_
    refine j_iload_n hc dX11_number_91 rfl ?_
    refine j_iload_n hc dX11_number_92 rfl ?_
    refine j_callS (d' := d - 1) hc dX11_number_93 sX11_145 (ev_X11_in (by omega) ⟨by omega, by omega⟩ hlo hhi) rfl (by omega) (by omega) (by omega) rfl rfl (Nat.le_of_ble_eq_true rfl) (ret1 ?_)
    refine j_if_eq (b := 0) (tgt := 126) hc dX11_number_96 (by decide) (by split <;> exact ⟨by omega, by omega⟩) (fun zc1 => ?_) (fun zc1 => ?_)
    · refine j_aload_n hc dX11_number_126 rfl ?_
      refine j_dup hc dX11_number_127 rfl ?_
      refine j_get hc dX11_number_128 fX11_125 hS.1 rfl ?_
      rw [h13]
      refine j_iconst hc dX11_number_131 ?_
      refine j_isub hc dX11_number_132 ?_
      refine j_put  hc dX11_number_133 pX11_125 hS.1 rfl mset_3 ?_
      generalize ezh1 : up _ _ _ = zh1
      have zzmod_zh1 := MdS.pf ezh1 hS
      refine j_aload_n hc dX11_number_136 rfl ?_
      refine j_callV (d' := d - 1) hc dX11_number_137 vX11_142 zzmod_zh1.1 (ev_X11_bad (by omega) zzmod_zh1 (by show inI (q - 1); exact ⟨by omega, by omega⟩) (by show inI (s1 4); exact ⟨by omega, by omega⟩)) rfl (by omega) (by omega) (by omega) rfl rfl (Nat.le_of_ble_eq_true rfl) (retN fun zq137 zp137 => ?_)
      obtain ⟨zS1, zF1⟩ := zp137
      refine j_iload_n hc dX11_number_140 rfl ?_
      exact j_iret hc he dX11_number_141 rfl (by omega) (by omega) ⟨_, rfl, lo, q - 1, q - 1, _, rfl, ⟨Or.inl rfl, fun _ => rfl, fun z => absurd z (by show ¬ (q - 1 = -1); omega)⟩, ⟨by omega, by omega⟩, ⟨by omega, by omega⟩, zS1, rfl, (by show (if s1 4 = -1 then q - 1 else s1 4) = q - 1; rw [if_pos h14]), hm1.f3.f4, Fr.tr ((by rw [← ezh1]; exact Fr.push (hF) rfl)) (zF1.mono fun z zz => zz)⟩
    · exact absurd (one_pos zc1) zin
set_option maxRecDepth 100000 in
set_option maxHeartbeats 4000000 in
theorem ev_X11_number {k : WC} {d : Nat} {h : AH} {s : Int → Int} {A : MAs} {b : Int → Int} {n : Int} {lo hi l but : Int} (hd : 4 ≤ d) (hS : MdS h s A) (hT : RdM s A b n) (hlo : inI lo) (hhi : inI hi) (hlo0 : 0 ≤ lo) (hbut : inI but) (hl : l = -1 ∨ (0 ≤ l ∧ l ≤ 6 ∧ lo = 0 ∧ hi ≤ 3 ∧ ∀ q : Int, 0 ≤ q → q ≤ 3 → inI (A 12 (4 * l + q)))) (h30 : 0 ≤ s 3) (h31 : s 3 ≤ n) (h4 : s 4 = -1) : Ev k d mdX11_number h [vR (70, 0), vI lo, vI hi, vI l, vI but] 0 0 (NuP s A b n (nuS b n (s 3) lo hi) lo hi l but h) := by
  have hn := hT.2.1
  obtain ⟨s1, s2, s3⟩ := skS_b b n (s 3)
  have s2 := s2 h31
  have zb0 := hrM_b hT h30
  have zs0 := hrM_S hT h30
  have zb1 := hrM_b hT (show 0 ≤ skS b n (s 3) by omega)
  have zs1 := hrM_S hT (show 0 ≤ skS b n (s 3) by omega)
  have zb2 := hrM_b hT (show 0 ≤ skS b n (s 3) + 1 by omega)
  have zs2 := hrM_S hT (show 0 ≤ skS b n (s 3) + 1 by omega)
  refine Ev.mk (by decide +kernel) [_, _, _, _, _, _] rfl (Nat.le_of_ble_eq_true rfl) (fun w hc he => ?_)
  unfold nuS at he
  by_cases hA : hrM b n (s 3) = 32
  · rw [if_neg (show ¬ hrS b n (s 3) ≠ 32 by omega)] at he
    by_cases hB : dgS (hrM b n (skS b n (s 3)))
    · rw [if_neg (show ¬ ¬ dgS (hrS b n (skS b n (s 3))) by omega)] at he
      have zc1m : hrM b n (skS b n (s 3)) = hrS b n (skS b n (s 3)) := by omega
      by_cases hC : dgS (hrM b n (skS b n (s 3) + 1))
      · rw [if_pos (show dgS (hrS b n (skS b n (s 3) + 1)) by omega)] at he
        have zc2m : hrM b n (skS b n (s 3) + 1) = hrS b n (skS b n (s 3) + 1) := by omega
        refine j_aload_n hc dX11_number_0 rfl ?_
        refine j_get hc dX11_number_1 fX11_132 hS.1 rfl ?_
        refine j_iconst hc dX11_number_4 ?_
        refine j_icmp_eq (tgt := 10) hc dX11_number_5 (by decide) (by rw [h4]; exact ⟨by omega, by omega⟩) ⟨by omega, by omega⟩ (fun zc1 => ?_) (fun zc1 => ?_)
        · refine j_aload_n hc dX11_number_10 rfl ?_
          refine j_callV (d' := d - 1) hc dX11_number_11 vX11_128 hS.1 (ev_X11_here (by omega) hS hT (by omega) (by omega)) rfl (by omega) (by omega) (by omega) rfl rfl (Nat.le_of_ble_eq_true rfl) (ret1 ?_)
          refine j_bipush hc dX11_number_14 (by decide) ?_
          refine j_icmp_ne (tgt := 29) hc dX11_number_16 (by decide) ⟨by omega, by omega⟩ ⟨by omega, by omega⟩ (fun zc2 => ?_) (fun zc2 => ?_)
          · exact absurd hA zc2
          · refine j_aload_n hc dX11_number_19 rfl ?_
            refine j_callV (d' := d - 1) hc dX11_number_20 vX11_135 hS.1 (ev_X11_look (by omega) hS hT (by omega) (by omega)) rfl (by omega) (by omega) (by omega) rfl rfl (Nat.le_of_ble_eq_true rfl) (retE fun zv20 zq20 zp20 => ?_)
            obtain ⟨zv7, zS7, zF7⟩ := zp20
            subst zv7
            refine j_callS (d' := d - 1) hc dX11_number_23 sX11_138 (ev_X11_isDigit (by omega) ⟨by omega, by omega⟩) rfl (by omega) (by omega) (by omega) rfl rfl (Nat.le_of_ble_eq_true rfl) (ret1 ?_)
            refine j_if_ne (b := 0) (tgt := 35) hc dX11_number_26 (by decide) (by split <;> exact ⟨by omega, by omega⟩) (fun zc3 => ?_) (fun zc3 => ?_)
            · refine j_aload_n hc dX11_number_35 rfl ?_
              refine j_callV (d' := d - 1) hc dX11_number_36 vX11_128 zS7.1 (ev_X11_here (by omega) zS7 (((SmR.rf s).f3).rd hT) (by show 0 ≤ skS b n (s 3); omega) (by show skS b n (s 3) ≤ 1000; omega)) rfl (by omega) (by omega) (by omega) rfl rfl (Nat.le_of_ble_eq_true rfl) (ret1 ?_)
              rw [fu_same]
              refine j_bipush hc dX11_number_39 (by decide) ?_
              refine j_isub hc dX11_number_41 ?_
              refine j_istore (L' := [_, _, _, _, _, _]) hc dX11_number_42 (Nat.le_of_ble_eq_true rfl) rfl ?_
              refine j_aload_n hc dX11_number_44 rfl ?_
              refine j_dup hc dX11_number_45 rfl ?_
              refine j_get hc dX11_number_46 fX11_125 zS7.1 rfl ?_
              rw [fu_same]
              refine j_iconst hc dX11_number_49 ?_
              refine j_iadd hc dX11_number_50 ?_
              refine j_put  hc dX11_number_51 pX11_125 zS7.1 rfl mset_3 ?_
              generalize ezh1 : up _ _ _ = zh1
              have zzmod_zh1 := MdS.pf ezh1 zS7
              refine j_aload_n hc dX11_number_54 rfl ?_
              refine j_callV (d' := d - 1) hc dX11_number_55 vX11_128 zzmod_zh1.1 (ev_X11_here (by omega) zzmod_zh1 (((SmR.rf s).f3.f3).rd hT) (by show 0 ≤ skS b n (s 3) + 1; omega) (by show skS b n (s 3) + 1 ≤ 1000; omega)) rfl (by omega) (by omega) (by omega) rfl rfl (Nat.le_of_ble_eq_true rfl) (ret1 ?_)
              rw [fu_same]
              refine j_callS (d' := d - 1) hc dX11_number_58 sX11_138 (ev_X11_isDigit (by omega) ⟨by omega, by omega⟩) rfl (by omega) (by omega) (by omega) rfl rfl (Nat.le_of_ble_eq_true rfl) (ret1 ?_)
              refine j_if_eq (b := 0) (tgt := 89) hc dX11_number_61 (by decide) (by split <;> exact ⟨by omega, by omega⟩) (fun zc4 => ?_) (fun zc4 => ?_)
              · exact absurd hC (one_neg zc4)
              · refine j_bipush hc dX11_number_64 (by decide) ?_
                refine j_iload hc dX11_number_66 rfl ?_
                refine j_imul hc dX11_number_68 ?_
                refine j_aload_n hc dX11_number_69 rfl ?_
                refine j_callV (d' := d - 1) hc dX11_number_70 vX11_128 zzmod_zh1.1 (ev_X11_here (by omega) zzmod_zh1 (((SmR.rf s).f3.f3).rd hT) (by show 0 ≤ skS b n (s 3) + 1; omega) (by show skS b n (s 3) + 1 ≤ 1000; omega)) rfl (by omega) (by omega) (by omega) rfl rfl (Nat.le_of_ble_eq_true rfl) (ret1 ?_)
                rw [fu_same]
                refine j_iadd hc dX11_number_73 ?_
                refine j_bipush hc dX11_number_74 (by decide) ?_
                refine j_isub hc dX11_number_76 ?_
                refine j_istore (L' := [_, _, _, _, _, _]) hc dX11_number_77 (Nat.le_of_ble_eq_true rfl) rfl ?_
                refine j_aload_n hc dX11_number_79 rfl ?_
                refine j_dup hc dX11_number_80 rfl ?_
                refine j_get hc dX11_number_81 fX11_125 zzmod_zh1.1 rfl ?_
                rw [fu_same]
                refine j_iconst hc dX11_number_84 ?_
                refine j_iadd hc dX11_number_85 ?_
                refine j_put  hc dX11_number_86 pX11_125 zzmod_zh1.1 rfl mset_3 ?_
                generalize ezh2 : up _ _ _ = zh2
                have zzmod_zh2 := MdS.pf ezh2 zzmod_zh1
                rw [show 10 * (hrM b n (skS b n (s 3)) - 48) + hrM b n (skS b n (s 3) + 1) - 48 = (hrM b n (skS b n (s 3)) - 48) * 10 + hrM b n (skS b n (s 3) + 1) - 48 by omega, zc1m, zc2m]
                exact tl_X11_number (q := skS b n (s 3) + 1 + 1) (by omega) hT hlo hhi hlo0 hbut hl (by omega) (by omega) (by omega) (by omega) ((SmR.rf s).f3.f3.f3) rfl h4 zzmod_zh2 ((by rw [← ezh2]; exact Fr.push ((by rw [← ezh1]; exact Fr.push (Fr.tr (Fr.rf _ _) (zF7.mono fun z zz => zz)) rfl)) rfl)) hc he
            · exact absurd hB (one_neg zc3)
        · exact absurd h4 zc1
      · rw [if_neg (show ¬ dgS (hrS b n (skS b n (s 3) + 1)) by omega)] at he
        refine j_aload_n hc dX11_number_0 rfl ?_
        refine j_get hc dX11_number_1 fX11_132 hS.1 rfl ?_
        refine j_iconst hc dX11_number_4 ?_
        refine j_icmp_eq (tgt := 10) hc dX11_number_5 (by decide) (by rw [h4]; exact ⟨by omega, by omega⟩) ⟨by omega, by omega⟩ (fun zc1 => ?_) (fun zc1 => ?_)
        · refine j_aload_n hc dX11_number_10 rfl ?_
          refine j_callV (d' := d - 1) hc dX11_number_11 vX11_128 hS.1 (ev_X11_here (by omega) hS hT (by omega) (by omega)) rfl (by omega) (by omega) (by omega) rfl rfl (Nat.le_of_ble_eq_true rfl) (ret1 ?_)
          refine j_bipush hc dX11_number_14 (by decide) ?_
          refine j_icmp_ne (tgt := 29) hc dX11_number_16 (by decide) ⟨by omega, by omega⟩ ⟨by omega, by omega⟩ (fun zc2 => ?_) (fun zc2 => ?_)
          · exact absurd hA zc2
          · refine j_aload_n hc dX11_number_19 rfl ?_
            refine j_callV (d' := d - 1) hc dX11_number_20 vX11_135 hS.1 (ev_X11_look (by omega) hS hT (by omega) (by omega)) rfl (by omega) (by omega) (by omega) rfl rfl (Nat.le_of_ble_eq_true rfl) (retE fun zv20 zq20 zp20 => ?_)
            obtain ⟨zv7, zS7, zF7⟩ := zp20
            subst zv7
            refine j_callS (d' := d - 1) hc dX11_number_23 sX11_138 (ev_X11_isDigit (by omega) ⟨by omega, by omega⟩) rfl (by omega) (by omega) (by omega) rfl rfl (Nat.le_of_ble_eq_true rfl) (ret1 ?_)
            refine j_if_ne (b := 0) (tgt := 35) hc dX11_number_26 (by decide) (by split <;> exact ⟨by omega, by omega⟩) (fun zc3 => ?_) (fun zc3 => ?_)
            · refine j_aload_n hc dX11_number_35 rfl ?_
              refine j_callV (d' := d - 1) hc dX11_number_36 vX11_128 zS7.1 (ev_X11_here (by omega) zS7 (((SmR.rf s).f3).rd hT) (by show 0 ≤ skS b n (s 3); omega) (by show skS b n (s 3) ≤ 1000; omega)) rfl (by omega) (by omega) (by omega) rfl rfl (Nat.le_of_ble_eq_true rfl) (ret1 ?_)
              rw [fu_same]
              refine j_bipush hc dX11_number_39 (by decide) ?_
              refine j_isub hc dX11_number_41 ?_
              refine j_istore (L' := [_, _, _, _, _, _]) hc dX11_number_42 (Nat.le_of_ble_eq_true rfl) rfl ?_
              refine j_aload_n hc dX11_number_44 rfl ?_
              refine j_dup hc dX11_number_45 rfl ?_
              refine j_get hc dX11_number_46 fX11_125 zS7.1 rfl ?_
              rw [fu_same]
              refine j_iconst hc dX11_number_49 ?_
              refine j_iadd hc dX11_number_50 ?_
              refine j_put  hc dX11_number_51 pX11_125 zS7.1 rfl mset_3 ?_
              generalize ezh1 : up _ _ _ = zh1
              have zzmod_zh1 := MdS.pf ezh1 zS7
              refine j_aload_n hc dX11_number_54 rfl ?_
              refine j_callV (d' := d - 1) hc dX11_number_55 vX11_128 zzmod_zh1.1 (ev_X11_here (by omega) zzmod_zh1 (((SmR.rf s).f3.f3).rd hT) (by show 0 ≤ skS b n (s 3) + 1; omega) (by show skS b n (s 3) + 1 ≤ 1000; omega)) rfl (by omega) (by omega) (by omega) rfl rfl (Nat.le_of_ble_eq_true rfl) (ret1 ?_)
              rw [fu_same]
              refine j_callS (d' := d - 1) hc dX11_number_58 sX11_138 (ev_X11_isDigit (by omega) ⟨by omega, by omega⟩) rfl (by omega) (by omega) (by omega) rfl rfl (Nat.le_of_ble_eq_true rfl) (ret1 ?_)
              refine j_if_eq (b := 0) (tgt := 89) hc dX11_number_61 (by decide) (by split <;> exact ⟨by omega, by omega⟩) (fun zc4 => ?_) (fun zc4 => ?_)
              · rw [zc1m]
                exact tl_X11_number (q := skS b n (s 3) + 1) (by omega) hT hlo hhi hlo0 hbut hl (by omega) (by omega) (by omega) (by omega) ((SmR.rf s).f3.f3) rfl h4 zzmod_zh1 ((by rw [← ezh1]; exact Fr.push (Fr.tr (Fr.rf _ _) (zF7.mono fun z zz => zz)) rfl)) hc he
              · exact absurd (one_pos zc4) hC
            · exact absurd hB (one_neg zc3)
        · exact absurd h4 zc1
    · rw [if_pos (show ¬ dgS (hrS b n (skS b n (s 3))) by omega)] at he
      refine j_aload_n hc dX11_number_0 rfl ?_
      refine j_get hc dX11_number_1 fX11_132 hS.1 rfl ?_
      refine j_iconst hc dX11_number_4 ?_
      refine j_icmp_eq (tgt := 10) hc dX11_number_5 (by decide) (by rw [h4]; exact ⟨by omega, by omega⟩) ⟨by omega, by omega⟩ (fun zc1 => ?_) (fun zc1 => ?_)
      · refine j_aload_n hc dX11_number_10 rfl ?_
        refine j_callV (d' := d - 1) hc dX11_number_11 vX11_128 hS.1 (ev_X11_here (by omega) hS hT (by omega) (by omega)) rfl (by omega) (by omega) (by omega) rfl rfl (Nat.le_of_ble_eq_true rfl) (ret1 ?_)
        refine j_bipush hc dX11_number_14 (by decide) ?_
        refine j_icmp_ne (tgt := 29) hc dX11_number_16 (by decide) ⟨by omega, by omega⟩ ⟨by omega, by omega⟩ (fun zc2 => ?_) (fun zc2 => ?_)
        · exact absurd hA zc2
        · refine j_aload_n hc dX11_number_19 rfl ?_
          refine j_callV (d' := d - 1) hc dX11_number_20 vX11_135 hS.1 (ev_X11_look (by omega) hS hT (by omega) (by omega)) rfl (by omega) (by omega) (by omega) rfl rfl (Nat.le_of_ble_eq_true rfl) (retE fun zv20 zq20 zp20 => ?_)
          obtain ⟨zv7, zS7, zF7⟩ := zp20
          subst zv7
          refine j_callS (d' := d - 1) hc dX11_number_23 sX11_138 (ev_X11_isDigit (by omega) ⟨by omega, by omega⟩) rfl (by omega) (by omega) (by omega) rfl rfl (Nat.le_of_ble_eq_true rfl) (ret1 ?_)
          refine j_if_ne (b := 0) (tgt := 35) hc dX11_number_26 (by decide) (by split <;> exact ⟨by omega, by omega⟩) (fun zc3 => ?_) (fun zc3 => ?_)
          · exact absurd (one_pos zc3) hB
          · refine j_aload_n hc dX11_number_29 rfl ?_
            refine j_callV (d' := d - 1) hc dX11_number_30 vX11_142 zS7.1 (ev_X11_bad (by omega) zS7 (by show inI (skS b n (s 3)); exact ⟨by omega, by omega⟩) (by show inI (s 4); exact ⟨by omega, by omega⟩)) rfl (by omega) (by omega) (by omega) rfl rfl (Nat.le_of_ble_eq_true rfl) (retN fun zq30 zp30 => ?_)
            obtain ⟨zS1, zF1⟩ := zp30
            refine j_iload_n hc dX11_number_33 rfl ?_
            exact j_iret hc he dX11_number_34 rfl (by omega) (by omega) ⟨_, rfl, lo, skS b n (s 3), skS b n (s 3), _, rfl, ⟨Or.inl rfl, fun _ => rfl, fun z => absurd z (by show ¬ (skS b n (s 3) = -1); omega)⟩, ⟨by omega, by omega⟩, ⟨by omega, by omega⟩, zS1, rfl, (by show (if s 4 = -1 then skS b n (s 3) else s 4) = skS b n (s 3); rw [if_pos h4]), (SmR.rf s).f3.f4, Fr.tr (Fr.tr (Fr.rf _ _) (zF7.mono fun z zz => zz)) (zF1.mono fun z zz => zz)⟩
      · exact absurd h4 zc1
  · rw [if_pos (show hrS b n (s 3) ≠ 32 by omega)] at he
    refine j_aload_n hc dX11_number_0 rfl ?_
    refine j_get hc dX11_number_1 fX11_132 hS.1 rfl ?_
    refine j_iconst hc dX11_number_4 ?_
    refine j_icmp_eq (tgt := 10) hc dX11_number_5 (by decide) (by rw [h4]; exact ⟨by omega, by omega⟩) ⟨by omega, by omega⟩ (fun zc1 => ?_) (fun zc1 => ?_)
    · refine j_aload_n hc dX11_number_10 rfl ?_
      refine j_callV (d' := d - 1) hc dX11_number_11 vX11_128 hS.1 (ev_X11_here (by omega) hS hT (by omega) (by omega)) rfl (by omega) (by omega) (by omega) rfl rfl (Nat.le_of_ble_eq_true rfl) (ret1 ?_)
      refine j_bipush hc dX11_number_14 (by decide) ?_
      refine j_icmp_ne (tgt := 29) hc dX11_number_16 (by decide) ⟨by omega, by omega⟩ ⟨by omega, by omega⟩ (fun zc2 => ?_) (fun zc2 => ?_)
      · refine j_aload_n hc dX11_number_29 rfl ?_
        refine j_callV (d' := d - 1) hc dX11_number_30 vX11_142 hS.1 (ev_X11_bad (by omega) hS (by show inI (s 3); exact ⟨by omega, by omega⟩) (by show inI (s 4); exact ⟨by omega, by omega⟩)) rfl (by omega) (by omega) (by omega) rfl rfl (Nat.le_of_ble_eq_true rfl) (retN fun zq30 zp30 => ?_)
        obtain ⟨zS1, zF1⟩ := zp30
        refine j_iload_n hc dX11_number_33 rfl ?_
        exact j_iret hc he dX11_number_34 rfl (by omega) (by omega) ⟨_, rfl, lo, s 3, s 3, _, rfl, ⟨Or.inl rfl, fun _ => rfl, fun z => absurd z (by show ¬ (s 3 = -1); omega)⟩, ⟨by omega, by omega⟩, ⟨by omega, by omega⟩, zS1, rfl, (by show (if s 4 = -1 then s 3 else s 4) = s 3; rw [if_pos h4]), (SmR.rf s).f4, Fr.tr (Fr.rf _ _) (zF1.mono fun z zz => zz)⟩
      · exact absurd zc2 hA
    · exact absurd h4 zc1
set_option maxRecDepth 100000 in
set_option maxHeartbeats 4000000 in
theorem ev_X11_number_w {k : WC} {d : Nat} {h : AH} {s : Int → Int} {A : MAs} {lo hi l but : Int} (hd : 1 ≤ d) (hS : MdS h s A) (h4 : s 4 ≠ -1) (h4i : inI (s 4)) : Ev k d mdX11_number h [vR (70, 0), vI lo, vI hi, vI l, vI but] 0 0 (pr (vI lo) h) := by
  refine Ev.mk (by decide +kernel) [_, _, _, _, _, _] rfl (Nat.le_of_ble_eq_true rfl) (fun w hc he => ?_)
  refine j_aload_n hc dX11_number_0 rfl ?_
  refine j_get hc dX11_number_1 fX11_132 hS.1 rfl ?_
  refine j_iconst hc dX11_number_4 ?_
  refine j_icmp_eq (tgt := 10) hc dX11_number_5 (by decide) h4i ⟨by omega, by omega⟩ (fun zc1 => ?_) (fun zc1 => ?_)
  · exact absurd zc1 h4
  · refine j_iload_n hc dX11_number_8 rfl ?_
    exact j_iret hc he dX11_number_9 rfl (by omega) (by omega) ⟨rfl, rfl⟩
