/-! ===== Arrays.fill ===== -/
set_option maxRecDepth 100000 in
set_option maxHeartbeats 4000000 in
theorem lp_J7_fill_53178 {k : WC} {d : Nat} {w : MC} {h : AH} {n : Nm} {len : Nat} {x : Int} (hd : 1 ≤ d) (hlen : len < 536870912) (hc : Cx w k d 0 0 mdJ7_fill_53178) (he : Ends w 0 0 (pn fun h' => (∃ f', h' n = some (oI len f') ∧ ∀ j : Int, 0 ≤ j → j < len → f' j = x) ∧ Fr (fun z => z = n) h h')) : ∀ (zm : Nat) (i : Int) (f' : Int → Int) (h' : AH), (len - i).toNat = zm → 0 ≤ i → i ≤ len → h' n = some (oI len f') → (∀ j : Int, 0 ≤ j → j < i → f' j = x) → Fr (fun z => z = n) h h' → J w 0 0 5 [some (vR n), some (vI x), some (vI i), some (vI len)] [] h' := by
  intro zm
  induction zm using Nat.strongRecOn with
  | _ zm ih =>
    intro i f' h' hm hi0 hi1 zn hq hfr
    refine j_iload_n hc dJ7_fill_53178_5 rfl ?_
    refine j_iload_n hc dJ7_fill_53178_6 rfl ?_
    refine j_icmp_ge (tgt := 20) hc dJ7_fill_53178_7 (by decide) ⟨by omega, by omega⟩ ⟨by omega, by omega⟩ (fun zc1 => ?_) (fun zc1 => ?_)
    · exact j_vret hc he dJ7_fill_53178_20 rfl (by omega) (by omega) ⟨rfl, ⟨_, zn, fun j z0 z1 => hq j z0 (by omega)⟩, hfr⟩
    · refine j_aload_n hc dJ7_fill_53178_10 rfl ?_
      refine j_iload_n hc dJ7_fill_53178_11 rfl ?_
      refine j_iload_n hc dJ7_fill_53178_12 rfl ?_
      refine j_iast hc dJ7_fill_53178_13 zn (by omega) (by omega) ?_
      generalize ezh1 : up _ _ _ = zh1
      have zA_zh1 := (congrFun ezh1 _).symm.trans (up_same _ _ _)
      refine j_iinc (L' := [_, _, _, _]) hc dJ7_fill_53178_14 rfl (Nat.le_of_ble_eq_true rfl) rfl ?_
      refine j_goto (tgt := 5) hc dJ7_fill_53178_17 (by decide) ?_
      exact ih _ (by omega) _ _ _ rfl (by omega) (by omega) zA_zh1 (fun j z0 z1 => by
        by_cases ze : j = i
        · rw [ze, fu_same]
        · rw [fu_ne ze]; exact hq j z0 (by omega)) (by rw [← ezh1]; exact hfr.push rfl)
set_option maxRecDepth 100000 in
set_option maxHeartbeats 4000000 in
theorem ev_J7_fill_53178 {k : WC} {d : Nat} {h : AH} {n : Nm} {len : Nat} {f : Int → Int} {x : Int} (hd : 1 ≤ d) (hlen : len < 536870912) (zn : h n = some (oI len f)) : Ev k d mdJ7_fill_53178 h [vR n, vI x] 0 0 (pn fun h' => (∃ f', h' n = some (oI len f') ∧ ∀ j : Int, 0 ≤ j → j < len → f' j = x) ∧ Fr (fun z => z = n) h h') := by
  refine Ev.mk (by decide +kernel) [_, _, _, _] rfl (Nat.le_of_ble_eq_true rfl) (fun w hc he => ?_)
  refine j_iconst hc dJ7_fill_53178_0 ?_
  refine j_istore_n (L' := [_, _, _, _]) hc dJ7_fill_53178_1 (Nat.le_of_ble_eq_true rfl) rfl ?_
  refine j_aload_n hc dJ7_fill_53178_2 rfl ?_
  refine j_alenP hc dJ7_fill_53178_3 zn (by decide) ?_
  refine j_istore_n (L' := [_, _, _, _]) hc dJ7_fill_53178_4 (Nat.le_of_ble_eq_true rfl) rfl ?_
  exact lp_J7_fill_53178 hd hlen hc he _ 0 f h rfl (by omega) (by omega) zn (fun j z0 z1 => by omega) (Fr.rf _ _)
set_option maxRecDepth 100000 in
set_option maxHeartbeats 4000000 in
theorem lp_J7_fill_d0a16 {k : WC} {d : Nat} {w : MC} {h : AH} {n : Nm} {len : Nat} {x : Int} (hd : 1 ≤ d) (hlen : len < 536870912) (hc : Cx w k d 0 0 mdJ7_fill_d0a16) (he : Ends w 0 0 (pn fun h' => (∃ f', h' n = some (oL len f') ∧ ∀ j : Int, 0 ≤ j → j < len → f' j = x) ∧ Fr (fun z => z = n) h h')) : ∀ (zm : Nat) (i : Int) (f' : Int → Int) (h' : AH), (len - i).toNat = zm → 0 ≤ i → i ≤ len → h' n = some (oL len f') → (∀ j : Int, 0 ≤ j → j < i → f' j = x) → Fr (fun z => z = n) h h' → J w 0 0 6 [some (vR n), some (vL x), none, some (vI i), some (vI len)] [] h' := by
  intro zm
  induction zm using Nat.strongRecOn with
  | _ zm ih =>
    intro i f' h' hm hi0 hi1 zn hq hfr
    refine j_iload_n hc dJ7_fill_d0a16_6 rfl ?_
    refine j_iload hc dJ7_fill_d0a16_7 rfl ?_
    refine j_icmp_ge (tgt := 22) hc dJ7_fill_d0a16_9 (by decide) ⟨by omega, by omega⟩ ⟨by omega, by omega⟩ (fun zc1 => ?_) (fun zc1 => ?_)
    · exact j_vret hc he dJ7_fill_d0a16_22 rfl (by omega) (by omega) ⟨rfl, ⟨_, zn, fun j z0 z1 => hq j z0 (by omega)⟩, hfr⟩
    · refine j_aload_n hc dJ7_fill_d0a16_12 rfl ?_
      refine j_iload_n hc dJ7_fill_d0a16_13 rfl ?_
      refine j_lload_n hc dJ7_fill_d0a16_14 rfl ?_
      refine j_last hc dJ7_fill_d0a16_15 zn (by omega) (by omega) ?_
      generalize ezh1 : up _ _ _ = zh1
      have zA_zh1 := (congrFun ezh1 _).symm.trans (up_same _ _ _)
      refine j_iinc (L' := [_, _, _, _, _]) hc dJ7_fill_d0a16_16 rfl (Nat.le_of_ble_eq_true rfl) rfl ?_
      refine j_goto (tgt := 6) hc dJ7_fill_d0a16_19 (by decide) ?_
      exact ih _ (by omega) _ _ _ rfl (by omega) (by omega) zA_zh1 (fun j z0 z1 => by
        by_cases ze : j = i
        · rw [ze, fu_same]
        · rw [fu_ne ze]; exact hq j z0 (by omega)) (by rw [← ezh1]; exact hfr.push rfl)
set_option maxRecDepth 100000 in
set_option maxHeartbeats 4000000 in
theorem ev_J7_fill_d0a16 {k : WC} {d : Nat} {h : AH} {n : Nm} {len : Nat} {f : Int → Int} {x : Int} (hd : 1 ≤ d) (hlen : len < 536870912) (zn : h n = some (oL len f)) : Ev k d mdJ7_fill_d0a16 h [vR n, vL x] 0 0 (pn fun h' => (∃ f', h' n = some (oL len f') ∧ ∀ j : Int, 0 ≤ j → j < len → f' j = x) ∧ Fr (fun z => z = n) h h') := by
  refine Ev.mk (by decide +kernel) [_, _, _, _, _] rfl (Nat.le_of_ble_eq_true rfl) (fun w hc he => ?_)
  refine j_iconst hc dJ7_fill_d0a16_0 ?_
  refine j_istore_n (L' := [_, _, _, _, _]) hc dJ7_fill_d0a16_1 (Nat.le_of_ble_eq_true rfl) rfl ?_
  refine j_aload_n hc dJ7_fill_d0a16_2 rfl ?_
  refine j_alenP hc dJ7_fill_d0a16_3 zn (by decide) ?_
  refine j_istore (L' := [_, _, _, _, _]) hc dJ7_fill_d0a16_4 (Nat.le_of_ble_eq_true rfl) rfl ?_
  exact lp_J7_fill_d0a16 hd hlen hc he _ 0 f h rfl (by omega) (by omega) zn (fun j z0 z1 => by omega) (Fr.rf _ _)
