/-! ===== a new barn ===== -/
theorem rwH_ne {h : AH} {z : Nm} (h0 : z ≠ (13, 0)) (h1 : z ≠ (14, 0)) (h2 : z ≠ (14, 1)) : rwH h z = h z := by unfold rwH; rw [up_ne h0, up_ne h2, up_ne h1]
theorem rwH_13 (h : AH) : rwH h (13, 0) = some (oA 5 2 (fun i => some (14, i))) := by unfold rwH; rw [up_same]
theorem rwH_140 (h : AH) : rwH h (14, 0) = some (oI 40 (fun _ => 0)) := by unfold rwH; rw [up_ne (by simp), up_ne (by simp), up_same]
theorem rwH_141 (h : AH) : rwH h (14, 1) = some (oI 40 (fun _ => 0)) := by unfold rwH; rw [up_ne (by simp), up_same]
def d0S : LaS := (1, 0, 0, 0, 0, fun _ => 0, fun _ => 0, fun _ => 0, fun _ => 0, fun _ => 0)
def bS0 : BaS := ((fun _ => 0, 0), (0, fun _ => d0S, fun _ => e0Y), (0, fun _ => []), (fun _ _ => 0, fun _ => 0), (fun _ => 0, 0, 0, 0))
theorem bS0_ok : BOK bS0 := ⟨⟨by decide, by decide, fun j j0 j1 => by have j1 : j < 0 := j1; omega⟩, ⟨by decide, by decide⟩, ⟨by decide, by decide⟩, fun l l0 l1 => by have l1 : l < 0 := l1; omega, fun r r0 r1 => by have r1 : r < 0 := r1; omega, fun r _ _ => ⟨by show (0 : Int) ≤ 0; omega, by show (0 : Int) ≤ 40; omega, fun x _ _ => ⟨by show (0 : Int) ≤ 0; omega, by show (0 : Int) ≤ 20; omega⟩⟩, ⟨by decide, by decide⟩, by decide, by decide⟩
theorem lnF_0 : (fun _ => none) = lnF 0 := by
  funext x
  unfold lnF
  rw [if_neg (by omega)]
theorem rnF_0 : (fun _ => none) = rnF 0 := by
  funext x
  unfold rnF
  rw [if_neg (by omega)]
theorem pr2_ru : ru (ru (fun _ => none) 0 (some (19, 0))) 1 (some (19, 1)) 0 = some (19, 0) ∧ ru (ru (fun _ => none) 0 (some (19, 0))) 1 (some (19, 1)) 1 = some (19, 1) := by
  constructor
  · rw [ru_ne (by decide), ru_same]
  · rw [ru_same]
/-- the same row of references, another function beyond its end -/
theorem j_extA {w : MC} {n1 n2 pc : Nat} {L : List (Option AV)} {st : List AV} {h : AH} {n : Nm} {kd len : Nat} {f f' : Int → Option Nm} (hh : h n = some (oA kd len f)) (e : ∀ j : Nat, j < len → f j = f' j) (kk : J w n1 n2 pc L st (up h n (oA kd len f'))) : J w n1 n2 pc L st h := by
  obtain ⟨p, l, ev, R, s, m, args, below, meth, c, Q, G, B, ρ0, h0⟩ := w
  intro ρ H locs ls hR hA hs hL hl hS
  obtain ⟨⟨c1, c2⟩, c3, -⟩ := hR.1 n _ hh
  refine kk ρ H locs ls (hR.put hh (fun q _ => rfl) ⟨c1, c2.trans (congrArg some (arrV_congr fun j hj => ?_))⟩ (fun j hj => ?_)) (hA.tr (up_ag hh ρ)) (fun v hv => (hs v hv).w) (fun v hv => (hL v hv).w) hl hS
  · show val ρ (vO (f j)) = val ρ (vO (f' j))
    rw [e j hj]
  · show Cl h (vO (f' j))
    rw [← e j hj]
    exact c3 j hj
set_option maxRecDepth 100000 in
set_option maxHeartbeats 4000000 in
theorem ev_X10_init {k : WC} {d : Nat} {h : AH} (hd : 6 ≤ d) (zB : h (0, 0) = some (oO 9 [vN, vN, vN, vN, vN, vN, vN, vN, vN, vN, vN, vI 0, vI 0])) (zf : ∀ z : Nm, z ≠ (0, 0) → z.1 < 70 → h z = none) : Ev k d mdX10_init h [vR (0, 0)] 40 2400 (pn fun h' => BarnAt h' bS0 ∧ Fr isBa h h') := by
  refine Ev.mk (by decide +kernel) [_] rfl (Nat.le_of_ble_eq_true rfl) (fun w hc he => ?_)
  refine j_aload_n hc dX10_init_0 rfl ?_
  refine j_objInit hc dX10_init_1 voX10_3 vo_inst vo_code rfl (by omega) (Nat.le_of_ble_eq_true rfl) ?_
  refine j_aload_n hc dX10_init_4 rfl ?_
  refine j_newq (nm := (1, 0)) (zq := 2) rfl hc dX10_init_5 wX10_9 (zf (1, 0) (by decide) (by decide)) (by omega) (by omega) ?_
  generalize ezh1 : up _ _ _ = zh1
  have zB_zh1 := (congrFun ezh1 _).symm.trans ((up_ne (by simp)).trans zB)
  have zFT2_zh1 := (congrFun ezh1 _).symm.trans ((up_ne (by simp)).trans (zf (2, 0) (by decide) (by decide)))
  have zFQ_zh1 := (congrFun ezh1 _).symm.trans ((up_ne (by simp)).trans (zf (3, 0) (by decide) (by decide)))
  have zFQ4_zh1 := (congrFun ezh1 _).symm.trans ((up_ne (by simp)).trans (zf (4, 0) (by decide) (by decide)))
  have zFQ5_zh1 := (congrFun ezh1 _).symm.trans ((up_ne (by simp)).trans (zf (5, 0) (by decide) (by decide)))
  have zFQ6_zh1 := (congrFun ezh1 _).symm.trans ((up_ne (by simp)).trans (zf (6, 0) (by decide) (by decide)))
  have zFQ7_zh1 := (congrFun ezh1 _).symm.trans ((up_ne (by simp)).trans (zf (7, 0) (by decide) (by decide)))
  have zFQ8_zh1 := (congrFun ezh1 _).symm.trans ((up_ne (by simp)).trans (zf (8, 0) (by decide) (by decide)))
  have zFRQ_zh1 := (congrFun ezh1 _).symm.trans ((up_ne (by simp)).trans (zf (9, 0) (by decide) (by decide)))
  have zFQ10_zh1 := (congrFun ezh1 _).symm.trans ((up_ne (by simp)).trans (zf (10, 0) (by decide) (by decide)))
  have zFA11_zh1 := (congrFun ezh1 _).symm.trans ((up_ne (by simp)).trans (zf (11, 0) (by decide) (by decide)))
  have zFA12_zh1 := (congrFun ezh1 _).symm.trans ((up_ne (by simp)).trans (zf (12, 0) (by decide) (by decide)))
  have zFA13_zh1 := (congrFun ezh1 _).symm.trans ((up_ne (by simp)).trans (zf (13, 0) (by decide) (by decide)))
  have zFW0_zh1 := (congrFun ezh1 _).symm.trans ((up_ne (by simp)).trans (zf (14, 0) (by decide) (by decide)))
  have zFW1_zh1 := (congrFun ezh1 _).symm.trans ((up_ne (by simp)).trans (zf (14, 1) (by decide) (by decide)))
  have zFA15_zh1 := (congrFun ezh1 _).symm.trans ((up_ne (by simp)).trans (zf (15, 0) (by decide) (by decide)))
  have zFX_zh1 := (congrFun ezh1 _).symm.trans ((up_ne (by simp)).trans (zf (16, 0) (by decide) (by decide)))
  have zFXH_zh1 := (congrFun ezh1 _).symm.trans ((up_ne (by simp)).trans (zf (17, 0) (by decide) (by decide)))
  have zFXB_zh1 := (congrFun ezh1 _).symm.trans ((up_ne (by simp)).trans (zf (17, 1) (by decide) (by decide)))
  have zFA18_zh1 := (congrFun ezh1 _).symm.trans ((up_ne (by simp)).trans (zf (18, 0) (by decide) (by decide)))
  have zFT0_zh1 := (congrFun ezh1 _).symm.trans ((up_ne (by simp)).trans (zf (19, 0) (by decide) (by decide)))
  have zFT1_zh1 := (congrFun ezh1 _).symm.trans ((up_ne (by simp)).trans (zf (19, 1) (by decide) (by decide)))
  have zFS0_zh1 := (congrFun ezh1 _).symm.trans ((up_ne (by simp)).trans (zf (20, 0) (by decide) (by decide)))
  have zFS021_zh1 := (congrFun ezh1 _).symm.trans ((up_ne (by simp)).trans (zf (21, 0) (by decide) (by decide)))
  have zFS1_zh1 := (congrFun ezh1 _).symm.trans ((up_ne (by simp)).trans (zf (20, 1) (by decide) (by decide)))
  have zFS121_zh1 := (congrFun ezh1 _).symm.trans ((up_ne (by simp)).trans (zf (21, 1) (by decide) (by decide)))
  have zT_zh1 := (congrFun ezh1 _).symm.trans (up_same _ _ _)
  refine j_dup hc dX10_init_8 rfl ?_
  refine j_callIN (d' := d - 1) hc dX10_init_9 nX10_11 (ev_X8_init (by omega) zT_zh1 zFT2_zh1) rfl (by omega) (by omega) (by omega) rfl rfl (Nat.le_of_ble_eq_true rfl) (retN fun zq9 zp9 => ?_)
  obtain ⟨⟨zT1_, zT2_⟩, zF9⟩ := zp9
  have zB_q9 := (zF9 _ (by show ¬ (_ = 1 ∨ _ = 2); decide)).trans zB_zh1
  have zFQ_q9 := (zF9 _ (by show ¬ (_ = 1 ∨ _ = 2); decide)).trans zFQ_zh1
  have zFQ4_q9 := (zF9 _ (by show ¬ (_ = 1 ∨ _ = 2); decide)).trans zFQ4_zh1
  have zFQ5_q9 := (zF9 _ (by show ¬ (_ = 1 ∨ _ = 2); decide)).trans zFQ5_zh1
  have zFQ6_q9 := (zF9 _ (by show ¬ (_ = 1 ∨ _ = 2); decide)).trans zFQ6_zh1
  have zFQ7_q9 := (zF9 _ (by show ¬ (_ = 1 ∨ _ = 2); decide)).trans zFQ7_zh1
  have zFQ8_q9 := (zF9 _ (by show ¬ (_ = 1 ∨ _ = 2); decide)).trans zFQ8_zh1
  have zFRQ_q9 := (zF9 _ (by show ¬ (_ = 1 ∨ _ = 2); decide)).trans zFRQ_zh1
  have zFQ10_q9 := (zF9 _ (by show ¬ (_ = 1 ∨ _ = 2); decide)).trans zFQ10_zh1
  have zFA11_q9 := (zF9 _ (by show ¬ (_ = 1 ∨ _ = 2); decide)).trans zFA11_zh1
  have zFA12_q9 := (zF9 _ (by show ¬ (_ = 1 ∨ _ = 2); decide)).trans zFA12_zh1
  have zFA13_q9 := (zF9 _ (by show ¬ (_ = 1 ∨ _ = 2); decide)).trans zFA13_zh1
  have zFW0_q9 := (zF9 _ (by show ¬ (_ = 1 ∨ _ = 2); decide)).trans zFW0_zh1
  have zFW1_q9 := (zF9 _ (by show ¬ (_ = 1 ∨ _ = 2); decide)).trans zFW1_zh1
  have zFA15_q9 := (zF9 _ (by show ¬ (_ = 1 ∨ _ = 2); decide)).trans zFA15_zh1
  have zFX_q9 := (zF9 _ (by show ¬ (_ = 1 ∨ _ = 2); decide)).trans zFX_zh1
  have zFXH_q9 := (zF9 _ (by show ¬ (_ = 1 ∨ _ = 2); decide)).trans zFXH_zh1
  have zFXB_q9 := (zF9 _ (by show ¬ (_ = 1 ∨ _ = 2); decide)).trans zFXB_zh1
  have zFA18_q9 := (zF9 _ (by show ¬ (_ = 1 ∨ _ = 2); decide)).trans zFA18_zh1
  have zFT0_q9 := (zF9 _ (by show ¬ (_ = 1 ∨ _ = 2); decide)).trans zFT0_zh1
  have zFT1_q9 := (zF9 _ (by show ¬ (_ = 1 ∨ _ = 2); decide)).trans zFT1_zh1
  have zFS0_q9 := (zF9 _ (by show ¬ (_ = 1 ∨ _ = 2); decide)).trans zFS0_zh1
  have zFS021_q9 := (zF9 _ (by show ¬ (_ = 1 ∨ _ = 2); decide)).trans zFS021_zh1
  have zFS1_q9 := (zF9 _ (by show ¬ (_ = 1 ∨ _ = 2); decide)).trans zFS1_zh1
  have zFS121_q9 := (zF9 _ (by show ¬ (_ = 1 ∨ _ = 2); decide)).trans zFS121_zh1
  refine j_putF (fs' := [_, _, _, _, _, _, _, _, _, _, _, _, _]) hc dX10_init_12 pX10_12 rfl zB_q9 rfl rfl ?_
  generalize ezh2 : up _ _ _ = zh2
  have zB_zh2 := (congrFun ezh2 _).symm.trans (up_same _ _ _)
  have zFQ_zh2 := (congrFun ezh2 _).symm.trans ((up_ne (by simp)).trans zFQ_q9)
  have zFQ4_zh2 := (congrFun ezh2 _).symm.trans ((up_ne (by simp)).trans zFQ4_q9)
  have zFQ5_zh2 := (congrFun ezh2 _).symm.trans ((up_ne (by simp)).trans zFQ5_q9)
  have zFQ6_zh2 := (congrFun ezh2 _).symm.trans ((up_ne (by simp)).trans zFQ6_q9)
  have zFQ7_zh2 := (congrFun ezh2 _).symm.trans ((up_ne (by simp)).trans zFQ7_q9)
  have zFQ8_zh2 := (congrFun ezh2 _).symm.trans ((up_ne (by simp)).trans zFQ8_q9)
  have zFRQ_zh2 := (congrFun ezh2 _).symm.trans ((up_ne (by simp)).trans zFRQ_q9)
  have zFQ10_zh2 := (congrFun ezh2 _).symm.trans ((up_ne (by simp)).trans zFQ10_q9)
  have zFA11_zh2 := (congrFun ezh2 _).symm.trans ((up_ne (by simp)).trans zFA11_q9)
  have zFA12_zh2 := (congrFun ezh2 _).symm.trans ((up_ne (by simp)).trans zFA12_q9)
  have zFA13_zh2 := (congrFun ezh2 _).symm.trans ((up_ne (by simp)).trans zFA13_q9)
  have zFW0_zh2 := (congrFun ezh2 _).symm.trans ((up_ne (by simp)).trans zFW0_q9)
  have zFW1_zh2 := (congrFun ezh2 _).symm.trans ((up_ne (by simp)).trans zFW1_q9)
  have zFA15_zh2 := (congrFun ezh2 _).symm.trans ((up_ne (by simp)).trans zFA15_q9)
  have zFX_zh2 := (congrFun ezh2 _).symm.trans ((up_ne (by simp)).trans zFX_q9)
  have zFXH_zh2 := (congrFun ezh2 _).symm.trans ((up_ne (by simp)).trans zFXH_q9)
  have zFXB_zh2 := (congrFun ezh2 _).symm.trans ((up_ne (by simp)).trans zFXB_q9)
  have zFA18_zh2 := (congrFun ezh2 _).symm.trans ((up_ne (by simp)).trans zFA18_q9)
  have zFT0_zh2 := (congrFun ezh2 _).symm.trans ((up_ne (by simp)).trans zFT0_q9)
  have zFT1_zh2 := (congrFun ezh2 _).symm.trans ((up_ne (by simp)).trans zFT1_q9)
  have zFS0_zh2 := (congrFun ezh2 _).symm.trans ((up_ne (by simp)).trans zFS0_q9)
  have zFS021_zh2 := (congrFun ezh2 _).symm.trans ((up_ne (by simp)).trans zFS021_q9)
  have zFS1_zh2 := (congrFun ezh2 _).symm.trans ((up_ne (by simp)).trans zFS1_q9)
  have zFS121_zh2 := (congrFun ezh2 _).symm.trans ((up_ne (by simp)).trans zFS121_q9)
  have zT_zh2 := (congrFun ezh2 _).symm.trans ((up_ne (by simp)).trans zT1_)
  have zT2_zh2 := (congrFun ezh2 _).symm.trans ((up_ne (by simp)).trans zT2_)
  refine j_aload_n hc dX10_init_15 rfl ?_
  refine j_newq (nm := (3, 0)) (zq := 15) rfl hc dX10_init_16 wX10_16 zFQ_zh2 (by omega) (by omega) ?_
  generalize ezh3 : up _ _ _ = zh3
  have zB_zh3 := (congrFun ezh3 _).symm.trans ((up_ne (by simp)).trans zB_zh2)
  have zFQ4_zh3 := (congrFun ezh3 _).symm.trans ((up_ne (by simp)).trans zFQ4_zh2)
  have zFQ5_zh3 := (congrFun ezh3 _).symm.trans ((up_ne (by simp)).trans zFQ5_zh2)
  have zFQ6_zh3 := (congrFun ezh3 _).symm.trans ((up_ne (by simp)).trans zFQ6_zh2)
  have zFQ7_zh3 := (congrFun ezh3 _).symm.trans ((up_ne (by simp)).trans zFQ7_zh2)
  have zFQ8_zh3 := (congrFun ezh3 _).symm.trans ((up_ne (by simp)).trans zFQ8_zh2)
  have zFRQ_zh3 := (congrFun ezh3 _).symm.trans ((up_ne (by simp)).trans zFRQ_zh2)
  have zFQ10_zh3 := (congrFun ezh3 _).symm.trans ((up_ne (by simp)).trans zFQ10_zh2)
  have zFA11_zh3 := (congrFun ezh3 _).symm.trans ((up_ne (by simp)).trans zFA11_zh2)
  have zFA12_zh3 := (congrFun ezh3 _).symm.trans ((up_ne (by simp)).trans zFA12_zh2)
  have zFA13_zh3 := (congrFun ezh3 _).symm.trans ((up_ne (by simp)).trans zFA13_zh2)
  have zFW0_zh3 := (congrFun ezh3 _).symm.trans ((up_ne (by simp)).trans zFW0_zh2)
  have zFW1_zh3 := (congrFun ezh3 _).symm.trans ((up_ne (by simp)).trans zFW1_zh2)
  have zFA15_zh3 := (congrFun ezh3 _).symm.trans ((up_ne (by simp)).trans zFA15_zh2)
  have zFX_zh3 := (congrFun ezh3 _).symm.trans ((up_ne (by simp)).trans zFX_zh2)
  have zFXH_zh3 := (congrFun ezh3 _).symm.trans ((up_ne (by simp)).trans zFXH_zh2)
  have zFXB_zh3 := (congrFun ezh3 _).symm.trans ((up_ne (by simp)).trans zFXB_zh2)
  have zFA18_zh3 := (congrFun ezh3 _).symm.trans ((up_ne (by simp)).trans zFA18_zh2)
  have zFT0_zh3 := (congrFun ezh3 _).symm.trans ((up_ne (by simp)).trans zFT0_zh2)
  have zFT1_zh3 := (congrFun ezh3 _).symm.trans ((up_ne (by simp)).trans zFT1_zh2)
  have zFS0_zh3 := (congrFun ezh3 _).symm.trans ((up_ne (by simp)).trans zFS0_zh2)
  have zFS021_zh3 := (congrFun ezh3 _).symm.trans ((up_ne (by simp)).trans zFS021_zh2)
  have zFS1_zh3 := (congrFun ezh3 _).symm.trans ((up_ne (by simp)).trans zFS1_zh2)
  have zFS121_zh3 := (congrFun ezh3 _).symm.trans ((up_ne (by simp)).trans zFS121_zh2)
  have zT_zh3 := (congrFun ezh3 _).symm.trans ((up_ne (by simp)).trans zT_zh2)
  have zT2_zh3 := (congrFun ezh3 _).symm.trans ((up_ne (by simp)).trans zT2_zh2)
  have zQ_zh3 := (congrFun ezh3 _).symm.trans (up_same _ _ _)
  refine j_dup hc dX10_init_19 rfl ?_
  refine j_aload_n hc dX10_init_20 rfl ?_
  refine j_get hc dX10_init_21 fX10_12 zB_zh3 rfl ?_
  refine j_callI (d' := d - 1) hc dX10_init_24 iX10_18 (ev_X1_init (by omega) zQ_zh3 (by rw [zT_zh3]; simp) (fun j j0 j1 => by rcases (by omega : j = 4 ∨ j = 5 ∨ j = 6 ∨ j = 7 ∨ j = 8) with rfl | rfl | rfl | rfl | rfl <;> assumption)) rfl (by omega) (by omega) (by omega) rfl rfl (Nat.le_of_ble_eq_true rfl) (retN fun zq24 zp24 => ?_)
  obtain ⟨zQ_, ⟨zQ4_, zQ5_, zQ6_, zQ7_, zQ8_⟩, zF24⟩ := zp24
  have zB_q24 := (zF24 _ (by show ¬ (_ ∧ _); decide)).trans zB_zh3
  have zFRQ_q24 := (zF24 _ (by show ¬ (_ ∧ _); decide)).trans zFRQ_zh3
  have zFQ10_q24 := (zF24 _ (by show ¬ (_ ∧ _); decide)).trans zFQ10_zh3
  have zFA11_q24 := (zF24 _ (by show ¬ (_ ∧ _); decide)).trans zFA11_zh3
  have zFA12_q24 := (zF24 _ (by show ¬ (_ ∧ _); decide)).trans zFA12_zh3
  have zFA13_q24 := (zF24 _ (by show ¬ (_ ∧ _); decide)).trans zFA13_zh3
  have zFW0_q24 := (zF24 _ (by show ¬ (_ ∧ _); decide)).trans zFW0_zh3
  have zFW1_q24 := (zF24 _ (by show ¬ (_ ∧ _); decide)).trans zFW1_zh3
  have zFA15_q24 := (zF24 _ (by show ¬ (_ ∧ _); decide)).trans zFA15_zh3
  have zFX_q24 := (zF24 _ (by show ¬ (_ ∧ _); decide)).trans zFX_zh3
  have zFXH_q24 := (zF24 _ (by show ¬ (_ ∧ _); decide)).trans zFXH_zh3
  have zFXB_q24 := (zF24 _ (by show ¬ (_ ∧ _); decide)).trans zFXB_zh3
  have zFA18_q24 := (zF24 _ (by show ¬ (_ ∧ _); decide)).trans zFA18_zh3
  have zFT0_q24 := (zF24 _ (by show ¬ (_ ∧ _); decide)).trans zFT0_zh3
  have zFT1_q24 := (zF24 _ (by show ¬ (_ ∧ _); decide)).trans zFT1_zh3
  have zFS0_q24 := (zF24 _ (by show ¬ (_ ∧ _); decide)).trans zFS0_zh3
  have zFS021_q24 := (zF24 _ (by show ¬ (_ ∧ _); decide)).trans zFS021_zh3
  have zFS1_q24 := (zF24 _ (by show ¬ (_ ∧ _); decide)).trans zFS1_zh3
  have zFS121_q24 := (zF24 _ (by show ¬ (_ ∧ _); decide)).trans zFS121_zh3
  have zT_q24 := (zF24 _ (by show ¬ (_ ∧ _); decide)).trans zT_zh3
  have zT2_q24 := (zF24 _ (by show ¬ (_ ∧ _); decide)).trans zT2_zh3
  refine j_putF (fs' := [_, _, _, _, _, _, _, _, _, _, _, _, _]) hc dX10_init_27 pX10_21 rfl zB_q24 rfl rfl ?_
  generalize ezh4 : up _ _ _ = zh4
  have zB_zh4 := (congrFun ezh4 _).symm.trans (up_same _ _ _)
  have zFRQ_zh4 := (congrFun ezh4 _).symm.trans ((up_ne (by simp)).trans zFRQ_q24)
  have zFQ10_zh4 := (congrFun ezh4 _).symm.trans ((up_ne (by simp)).trans zFQ10_q24)
  have zFA11_zh4 := (congrFun ezh4 _).symm.trans ((up_ne (by simp)).trans zFA11_q24)
  have zFA12_zh4 := (congrFun ezh4 _).symm.trans ((up_ne (by simp)).trans zFA12_q24)
  have zFA13_zh4 := (congrFun ezh4 _).symm.trans ((up_ne (by simp)).trans zFA13_q24)
  have zFW0_zh4 := (congrFun ezh4 _).symm.trans ((up_ne (by simp)).trans zFW0_q24)
  have zFW1_zh4 := (congrFun ezh4 _).symm.trans ((up_ne (by simp)).trans zFW1_q24)
  have zFA15_zh4 := (congrFun ezh4 _).symm.trans ((up_ne (by simp)).trans zFA15_q24)
  have zFX_zh4 := (congrFun ezh4 _).symm.trans ((up_ne (by simp)).trans zFX_q24)
  have zFXH_zh4 := (congrFun ezh4 _).symm.trans ((up_ne (by simp)).trans zFXH_q24)
  have zFXB_zh4 := (congrFun ezh4 _).symm.trans ((up_ne (by simp)).trans zFXB_q24)
  have zFA18_zh4 := (congrFun ezh4 _).symm.trans ((up_ne (by simp)).trans zFA18_q24)
  have zFT0_zh4 := (congrFun ezh4 _).symm.trans ((up_ne (by simp)).trans zFT0_q24)
  have zFT1_zh4 := (congrFun ezh4 _).symm.trans ((up_ne (by simp)).trans zFT1_q24)
  have zFS0_zh4 := (congrFun ezh4 _).symm.trans ((up_ne (by simp)).trans zFS0_q24)
  have zFS021_zh4 := (congrFun ezh4 _).symm.trans ((up_ne (by simp)).trans zFS021_q24)
  have zFS1_zh4 := (congrFun ezh4 _).symm.trans ((up_ne (by simp)).trans zFS1_q24)
  have zFS121_zh4 := (congrFun ezh4 _).symm.trans ((up_ne (by simp)).trans zFS121_q24)
  have zT_zh4 := (congrFun ezh4 _).symm.trans ((up_ne (by simp)).trans zT_q24)
  have zT2_zh4 := (congrFun ezh4 _).symm.trans ((up_ne (by simp)).trans zT2_q24)
  have zQ_zh4 := (congrFun ezh4 _).symm.trans ((up_ne (by simp)).trans zQ_)
  have zQ4_zh4 := (congrFun ezh4 _).symm.trans ((up_ne (by simp)).trans zQ4_)
  have zQ5_zh4 := (congrFun ezh4 _).symm.trans ((up_ne (by simp)).trans zQ5_)
  have zQ6_zh4 := (congrFun ezh4 _).symm.trans ((up_ne (by simp)).trans zQ6_)
  have zQ7_zh4 := (congrFun ezh4 _).symm.trans ((up_ne (by simp)).trans zQ7_)
  have zQ8_zh4 := (congrFun ezh4 _).symm.trans ((up_ne (by simp)).trans zQ8_)
  refine j_aload_n hc dX10_init_30 rfl ?_
  refine j_newq (nm := (9, 0)) (zq := 5) rfl hc dX10_init_31 wX10_25 zFRQ_zh4 (by omega) (by omega) ?_
  generalize ezh5 : up _ _ _ = zh5
  have zB_zh5 := (congrFun ezh5 _).symm.trans ((up_ne (by simp)).trans zB_zh4)
  have zFQ10_zh5 := (congrFun ezh5 _).symm.trans ((up_ne (by simp)).trans zFQ10_zh4)
  have zFA11_zh5 := (congrFun ezh5 _).symm.trans ((up_ne (by simp)).trans zFA11_zh4)
  have zFA12_zh5 := (congrFun ezh5 _).symm.trans ((up_ne (by simp)).trans zFA12_zh4)
  have zFA13_zh5 := (congrFun ezh5 _).symm.trans ((up_ne (by simp)).trans zFA13_zh4)
  have zFW0_zh5 := (congrFun ezh5 _).symm.trans ((up_ne (by simp)).trans zFW0_zh4)
  have zFW1_zh5 := (congrFun ezh5 _).symm.trans ((up_ne (by simp)).trans zFW1_zh4)
  have zFA15_zh5 := (congrFun ezh5 _).symm.trans ((up_ne (by simp)).trans zFA15_zh4)
  have zFX_zh5 := (congrFun ezh5 _).symm.trans ((up_ne (by simp)).trans zFX_zh4)
  have zFXH_zh5 := (congrFun ezh5 _).symm.trans ((up_ne (by simp)).trans zFXH_zh4)
  have zFXB_zh5 := (congrFun ezh5 _).symm.trans ((up_ne (by simp)).trans zFXB_zh4)
  have zFA18_zh5 := (congrFun ezh5 _).symm.trans ((up_ne (by simp)).trans zFA18_zh4)
  have zFT0_zh5 := (congrFun ezh5 _).symm.trans ((up_ne (by simp)).trans zFT0_zh4)
  have zFT1_zh5 := (congrFun ezh5 _).symm.trans ((up_ne (by simp)).trans zFT1_zh4)
  have zFS0_zh5 := (congrFun ezh5 _).symm.trans ((up_ne (by simp)).trans zFS0_zh4)
  have zFS021_zh5 := (congrFun ezh5 _).symm.trans ((up_ne (by simp)).trans zFS021_zh4)
  have zFS1_zh5 := (congrFun ezh5 _).symm.trans ((up_ne (by simp)).trans zFS1_zh4)
  have zFS121_zh5 := (congrFun ezh5 _).symm.trans ((up_ne (by simp)).trans zFS121_zh4)
  have zT_zh5 := (congrFun ezh5 _).symm.trans ((up_ne (by simp)).trans zT_zh4)
  have zT2_zh5 := (congrFun ezh5 _).symm.trans ((up_ne (by simp)).trans zT2_zh4)
  have zQ_zh5 := (congrFun ezh5 _).symm.trans ((up_ne (by simp)).trans zQ_zh4)
  have zQ4_zh5 := (congrFun ezh5 _).symm.trans ((up_ne (by simp)).trans zQ4_zh4)
  have zQ5_zh5 := (congrFun ezh5 _).symm.trans ((up_ne (by simp)).trans zQ5_zh4)
  have zQ6_zh5 := (congrFun ezh5 _).symm.trans ((up_ne (by simp)).trans zQ6_zh4)
  have zQ7_zh5 := (congrFun ezh5 _).symm.trans ((up_ne (by simp)).trans zQ7_zh4)
  have zQ8_zh5 := (congrFun ezh5 _).symm.trans ((up_ne (by simp)).trans zQ8_zh4)
  have zRQ_zh5 := (congrFun ezh5 _).symm.trans (up_same _ _ _)
  refine j_dup hc dX10_init_34 rfl ?_
  refine j_aload_n hc dX10_init_35 rfl ?_
  refine j_get hc dX10_init_36 fX10_12 zB_zh5 rfl ?_
  refine j_callI (d' := d - 1) hc dX10_init_39 iX10_27 (ev_X5_init (by omega) zRQ_zh5 (by rw [zT_zh5]; simp) zFQ10_zh5) rfl (by omega) (by omega) (by omega) rfl rfl (Nat.le_of_ble_eq_true rfl) (retN fun zq39 zp39 => ?_)
  obtain ⟨⟨zRQ_, zQ10_⟩, zF39⟩ := zp39
  have zB_q39 := (zF39 _ (by show ¬ (_ ∨ _); decide)).trans zB_zh5
  have zFA11_q39 := (zF39 _ (by show ¬ (_ ∨ _); decide)).trans zFA11_zh5
  have zFA12_q39 := (zF39 _ (by show ¬ (_ ∨ _); decide)).trans zFA12_zh5
  have zFA13_q39 := (zF39 _ (by show ¬ (_ ∨ _); decide)).trans zFA13_zh5
  have zFW0_q39 := (zF39 _ (by show ¬ (_ ∨ _); decide)).trans zFW0_zh5
  have zFW1_q39 := (zF39 _ (by show ¬ (_ ∨ _); decide)).trans zFW1_zh5
  have zFA15_q39 := (zF39 _ (by show ¬ (_ ∨ _); decide)).trans zFA15_zh5
  have zFX_q39 := (zF39 _ (by show ¬ (_ ∨ _); decide)).trans zFX_zh5
  have zFXH_q39 := (zF39 _ (by show ¬ (_ ∨ _); decide)).trans zFXH_zh5
  have zFXB_q39 := (zF39 _ (by show ¬ (_ ∨ _); decide)).trans zFXB_zh5
  have zFA18_q39 := (zF39 _ (by show ¬ (_ ∨ _); decide)).trans zFA18_zh5
  have zFT0_q39 := (zF39 _ (by show ¬ (_ ∨ _); decide)).trans zFT0_zh5
  have zFT1_q39 := (zF39 _ (by show ¬ (_ ∨ _); decide)).trans zFT1_zh5
  have zFS0_q39 := (zF39 _ (by show ¬ (_ ∨ _); decide)).trans zFS0_zh5
  have zFS021_q39 := (zF39 _ (by show ¬ (_ ∨ _); decide)).trans zFS021_zh5
  have zFS1_q39 := (zF39 _ (by show ¬ (_ ∨ _); decide)).trans zFS1_zh5
  have zFS121_q39 := (zF39 _ (by show ¬ (_ ∨ _); decide)).trans zFS121_zh5
  have zT_q39 := (zF39 _ (by show ¬ (_ ∨ _); decide)).trans zT_zh5
  have zT2_q39 := (zF39 _ (by show ¬ (_ ∨ _); decide)).trans zT2_zh5
  have zQ_q39 := (zF39 _ (by show ¬ (_ ∨ _); decide)).trans zQ_zh5
  have zQ4_q39 := (zF39 _ (by show ¬ (_ ∨ _); decide)).trans zQ4_zh5
  have zQ5_q39 := (zF39 _ (by show ¬ (_ ∨ _); decide)).trans zQ5_zh5
  have zQ6_q39 := (zF39 _ (by show ¬ (_ ∨ _); decide)).trans zQ6_zh5
  have zQ7_q39 := (zF39 _ (by show ¬ (_ ∨ _); decide)).trans zQ7_zh5
  have zQ8_q39 := (zF39 _ (by show ¬ (_ ∨ _); decide)).trans zQ8_zh5
  refine j_putF (fs' := [_, _, _, _, _, _, _, _, _, _, _, _, _]) hc dX10_init_42 pX10_28 rfl zB_q39 rfl rfl ?_
  generalize ezh6 : up _ _ _ = zh6
  have zB_zh6 := (congrFun ezh6 _).symm.trans (up_same _ _ _)
  have zFA11_zh6 := (congrFun ezh6 _).symm.trans ((up_ne (by simp)).trans zFA11_q39)
  have zFA12_zh6 := (congrFun ezh6 _).symm.trans ((up_ne (by simp)).trans zFA12_q39)
  have zFA13_zh6 := (congrFun ezh6 _).symm.trans ((up_ne (by simp)).trans zFA13_q39)
  have zFW0_zh6 := (congrFun ezh6 _).symm.trans ((up_ne (by simp)).trans zFW0_q39)
  have zFW1_zh6 := (congrFun ezh6 _).symm.trans ((up_ne (by simp)).trans zFW1_q39)
  have zFA15_zh6 := (congrFun ezh6 _).symm.trans ((up_ne (by simp)).trans zFA15_q39)
  have zFX_zh6 := (congrFun ezh6 _).symm.trans ((up_ne (by simp)).trans zFX_q39)
  have zFXH_zh6 := (congrFun ezh6 _).symm.trans ((up_ne (by simp)).trans zFXH_q39)
  have zFXB_zh6 := (congrFun ezh6 _).symm.trans ((up_ne (by simp)).trans zFXB_q39)
  have zFA18_zh6 := (congrFun ezh6 _).symm.trans ((up_ne (by simp)).trans zFA18_q39)
  have zFT0_zh6 := (congrFun ezh6 _).symm.trans ((up_ne (by simp)).trans zFT0_q39)
  have zFT1_zh6 := (congrFun ezh6 _).symm.trans ((up_ne (by simp)).trans zFT1_q39)
  have zFS0_zh6 := (congrFun ezh6 _).symm.trans ((up_ne (by simp)).trans zFS0_q39)
  have zFS021_zh6 := (congrFun ezh6 _).symm.trans ((up_ne (by simp)).trans zFS021_q39)
  have zFS1_zh6 := (congrFun ezh6 _).symm.trans ((up_ne (by simp)).trans zFS1_q39)
  have zFS121_zh6 := (congrFun ezh6 _).symm.trans ((up_ne (by simp)).trans zFS121_q39)
  have zT_zh6 := (congrFun ezh6 _).symm.trans ((up_ne (by simp)).trans zT_q39)
  have zT2_zh6 := (congrFun ezh6 _).symm.trans ((up_ne (by simp)).trans zT2_q39)
  have zQ_zh6 := (congrFun ezh6 _).symm.trans ((up_ne (by simp)).trans zQ_q39)
  have zQ4_zh6 := (congrFun ezh6 _).symm.trans ((up_ne (by simp)).trans zQ4_q39)
  have zQ5_zh6 := (congrFun ezh6 _).symm.trans ((up_ne (by simp)).trans zQ5_q39)
  have zQ6_zh6 := (congrFun ezh6 _).symm.trans ((up_ne (by simp)).trans zQ6_q39)
  have zQ7_zh6 := (congrFun ezh6 _).symm.trans ((up_ne (by simp)).trans zQ7_q39)
  have zQ8_zh6 := (congrFun ezh6 _).symm.trans ((up_ne (by simp)).trans zQ8_q39)
  have zRQ_zh6 := (congrFun ezh6 _).symm.trans ((up_ne (by simp)).trans zRQ_)
  have zQ10_zh6 := (congrFun ezh6 _).symm.trans ((up_ne (by simp)).trans zQ10_)
  refine j_aload_n hc dX10_init_45 rfl ?_
  refine j_bipush hc dX10_init_46 (by decide) ?_
  refine j_anew (nm := (11, 0)) (kd := 3) hc dX10_init_48 clX10_32 (by decide) (by decide) rfl (by decide) zFA11_zh6 (by omega) (by omega) (by omega) (by omega) ?_
  generalize ezh7 : up _ _ _ = zh7
  have zB_zh7 := (congrFun ezh7 _).symm.trans ((up_ne (by simp)).trans zB_zh6)
  have zFA12_zh7 := (congrFun ezh7 _).symm.trans ((up_ne (by simp)).trans zFA12_zh6)
  have zFA13_zh7 := (congrFun ezh7 _).symm.trans ((up_ne (by simp)).trans zFA13_zh6)
  have zFW0_zh7 := (congrFun ezh7 _).symm.trans ((up_ne (by simp)).trans zFW0_zh6)
  have zFW1_zh7 := (congrFun ezh7 _).symm.trans ((up_ne (by simp)).trans zFW1_zh6)
  have zFA15_zh7 := (congrFun ezh7 _).symm.trans ((up_ne (by simp)).trans zFA15_zh6)
  have zFX_zh7 := (congrFun ezh7 _).symm.trans ((up_ne (by simp)).trans zFX_zh6)
  have zFXH_zh7 := (congrFun ezh7 _).symm.trans ((up_ne (by simp)).trans zFXH_zh6)
  have zFXB_zh7 := (congrFun ezh7 _).symm.trans ((up_ne (by simp)).trans zFXB_zh6)
  have zFA18_zh7 := (congrFun ezh7 _).symm.trans ((up_ne (by simp)).trans zFA18_zh6)
  have zFT0_zh7 := (congrFun ezh7 _).symm.trans ((up_ne (by simp)).trans zFT0_zh6)
  have zFT1_zh7 := (congrFun ezh7 _).symm.trans ((up_ne (by simp)).trans zFT1_zh6)
  have zFS0_zh7 := (congrFun ezh7 _).symm.trans ((up_ne (by simp)).trans zFS0_zh6)
  have zFS021_zh7 := (congrFun ezh7 _).symm.trans ((up_ne (by simp)).trans zFS021_zh6)
  have zFS1_zh7 := (congrFun ezh7 _).symm.trans ((up_ne (by simp)).trans zFS1_zh6)
  have zFS121_zh7 := (congrFun ezh7 _).symm.trans ((up_ne (by simp)).trans zFS121_zh6)
  have zT_zh7 := (congrFun ezh7 _).symm.trans ((up_ne (by simp)).trans zT_zh6)
  have zT2_zh7 := (congrFun ezh7 _).symm.trans ((up_ne (by simp)).trans zT2_zh6)
  have zQ_zh7 := (congrFun ezh7 _).symm.trans ((up_ne (by simp)).trans zQ_zh6)
  have zQ4_zh7 := (congrFun ezh7 _).symm.trans ((up_ne (by simp)).trans zQ4_zh6)
  have zQ5_zh7 := (congrFun ezh7 _).symm.trans ((up_ne (by simp)).trans zQ5_zh6)
  have zQ6_zh7 := (congrFun ezh7 _).symm.trans ((up_ne (by simp)).trans zQ6_zh6)
  have zQ7_zh7 := (congrFun ezh7 _).symm.trans ((up_ne (by simp)).trans zQ7_zh6)
  have zQ8_zh7 := (congrFun ezh7 _).symm.trans ((up_ne (by simp)).trans zQ8_zh6)
  have zRQ_zh7 := (congrFun ezh7 _).symm.trans ((up_ne (by simp)).trans zRQ_zh6)
  have zQ10_zh7 := (congrFun ezh7 _).symm.trans ((up_ne (by simp)).trans zQ10_zh6)
  have zA11_zh7 := (congrFun ezh7 _).symm.trans (up_same _ _ _)
  refine j_putF (fs' := [_, _, _, _, _, _, _, _, _, _, _, _, _]) hc dX10_init_51 pX10_34 rfl zB_zh7 rfl rfl ?_
  generalize ezh8 : up _ _ _ = zh8
  have zB_zh8 := (congrFun ezh8 _).symm.trans (up_same _ _ _)
  have zFA12_zh8 := (congrFun ezh8 _).symm.trans ((up_ne (by simp)).trans zFA12_zh7)
  have zFA13_zh8 := (congrFun ezh8 _).symm.trans ((up_ne (by simp)).trans zFA13_zh7)
  have zFW0_zh8 := (congrFun ezh8 _).symm.trans ((up_ne (by simp)).trans zFW0_zh7)
  have zFW1_zh8 := (congrFun ezh8 _).symm.trans ((up_ne (by simp)).trans zFW1_zh7)
  have zFA15_zh8 := (congrFun ezh8 _).symm.trans ((up_ne (by simp)).trans zFA15_zh7)
  have zFX_zh8 := (congrFun ezh8 _).symm.trans ((up_ne (by simp)).trans zFX_zh7)
  have zFXH_zh8 := (congrFun ezh8 _).symm.trans ((up_ne (by simp)).trans zFXH_zh7)
  have zFXB_zh8 := (congrFun ezh8 _).symm.trans ((up_ne (by simp)).trans zFXB_zh7)
  have zFA18_zh8 := (congrFun ezh8 _).symm.trans ((up_ne (by simp)).trans zFA18_zh7)
  have zFT0_zh8 := (congrFun ezh8 _).symm.trans ((up_ne (by simp)).trans zFT0_zh7)
  have zFT1_zh8 := (congrFun ezh8 _).symm.trans ((up_ne (by simp)).trans zFT1_zh7)
  have zFS0_zh8 := (congrFun ezh8 _).symm.trans ((up_ne (by simp)).trans zFS0_zh7)
  have zFS021_zh8 := (congrFun ezh8 _).symm.trans ((up_ne (by simp)).trans zFS021_zh7)
  have zFS1_zh8 := (congrFun ezh8 _).symm.trans ((up_ne (by simp)).trans zFS1_zh7)
  have zFS121_zh8 := (congrFun ezh8 _).symm.trans ((up_ne (by simp)).trans zFS121_zh7)
  have zT_zh8 := (congrFun ezh8 _).symm.trans ((up_ne (by simp)).trans zT_zh7)
  have zT2_zh8 := (congrFun ezh8 _).symm.trans ((up_ne (by simp)).trans zT2_zh7)
  have zQ_zh8 := (congrFun ezh8 _).symm.trans ((up_ne (by simp)).trans zQ_zh7)
  have zQ4_zh8 := (congrFun ezh8 _).symm.trans ((up_ne (by simp)).trans zQ4_zh7)
  have zQ5_zh8 := (congrFun ezh8 _).symm.trans ((up_ne (by simp)).trans zQ5_zh7)
  have zQ6_zh8 := (congrFun ezh8 _).symm.trans ((up_ne (by simp)).trans zQ6_zh7)
  have zQ7_zh8 := (congrFun ezh8 _).symm.trans ((up_ne (by simp)).trans zQ7_zh7)
  have zQ8_zh8 := (congrFun ezh8 _).symm.trans ((up_ne (by simp)).trans zQ8_zh7)
  have zRQ_zh8 := (congrFun ezh8 _).symm.trans ((up_ne (by simp)).trans zRQ_zh7)
  have zQ10_zh8 := (congrFun ezh8 _).symm.trans ((up_ne (by simp)).trans zQ10_zh7)
  have zA11_zh8 := (congrFun ezh8 _).symm.trans ((up_ne (by simp)).trans zA11_zh7)
  refine j_aload_n hc dX10_init_54 rfl ?_
  refine j_bipush hc dX10_init_55 (by decide) ?_
  refine j_anew (nm := (12, 0)) (kd := 4) hc dX10_init_57 clX10_38 (by decide) (by decide) rfl (by decide) zFA12_zh8 (by omega) (by omega) (by omega) (by omega) ?_
  generalize ezh9 : up _ _ _ = zh9
  have zB_zh9 := (congrFun ezh9 _).symm.trans ((up_ne (by simp)).trans zB_zh8)
  have zFA13_zh9 := (congrFun ezh9 _).symm.trans ((up_ne (by simp)).trans zFA13_zh8)
  have zFW0_zh9 := (congrFun ezh9 _).symm.trans ((up_ne (by simp)).trans zFW0_zh8)
  have zFW1_zh9 := (congrFun ezh9 _).symm.trans ((up_ne (by simp)).trans zFW1_zh8)
  have zFA15_zh9 := (congrFun ezh9 _).symm.trans ((up_ne (by simp)).trans zFA15_zh8)
  have zFX_zh9 := (congrFun ezh9 _).symm.trans ((up_ne (by simp)).trans zFX_zh8)
  have zFXH_zh9 := (congrFun ezh9 _).symm.trans ((up_ne (by simp)).trans zFXH_zh8)
  have zFXB_zh9 := (congrFun ezh9 _).symm.trans ((up_ne (by simp)).trans zFXB_zh8)
  have zFA18_zh9 := (congrFun ezh9 _).symm.trans ((up_ne (by simp)).trans zFA18_zh8)
  have zFT0_zh9 := (congrFun ezh9 _).symm.trans ((up_ne (by simp)).trans zFT0_zh8)
  have zFT1_zh9 := (congrFun ezh9 _).symm.trans ((up_ne (by simp)).trans zFT1_zh8)
  have zFS0_zh9 := (congrFun ezh9 _).symm.trans ((up_ne (by simp)).trans zFS0_zh8)
  have zFS021_zh9 := (congrFun ezh9 _).symm.trans ((up_ne (by simp)).trans zFS021_zh8)
  have zFS1_zh9 := (congrFun ezh9 _).symm.trans ((up_ne (by simp)).trans zFS1_zh8)
  have zFS121_zh9 := (congrFun ezh9 _).symm.trans ((up_ne (by simp)).trans zFS121_zh8)
  have zT_zh9 := (congrFun ezh9 _).symm.trans ((up_ne (by simp)).trans zT_zh8)
  have zT2_zh9 := (congrFun ezh9 _).symm.trans ((up_ne (by simp)).trans zT2_zh8)
  have zQ_zh9 := (congrFun ezh9 _).symm.trans ((up_ne (by simp)).trans zQ_zh8)
  have zQ4_zh9 := (congrFun ezh9 _).symm.trans ((up_ne (by simp)).trans zQ4_zh8)
  have zQ5_zh9 := (congrFun ezh9 _).symm.trans ((up_ne (by simp)).trans zQ5_zh8)
  have zQ6_zh9 := (congrFun ezh9 _).symm.trans ((up_ne (by simp)).trans zQ6_zh8)
  have zQ7_zh9 := (congrFun ezh9 _).symm.trans ((up_ne (by simp)).trans zQ7_zh8)
  have zQ8_zh9 := (congrFun ezh9 _).symm.trans ((up_ne (by simp)).trans zQ8_zh8)
  have zRQ_zh9 := (congrFun ezh9 _).symm.trans ((up_ne (by simp)).trans zRQ_zh8)
  have zQ10_zh9 := (congrFun ezh9 _).symm.trans ((up_ne (by simp)).trans zQ10_zh8)
  have zA11_zh9 := (congrFun ezh9 _).symm.trans ((up_ne (by simp)).trans zA11_zh8)
  have zA12_zh9 := (congrFun ezh9 _).symm.trans (up_same _ _ _)
  refine j_putF (fs' := [_, _, _, _, _, _, _, _, _, _, _, _, _]) hc dX10_init_60 pX10_40 rfl zB_zh9 rfl rfl ?_
  generalize ezh10 : up _ _ _ = zh10
  have zB_zh10 := (congrFun ezh10 _).symm.trans (up_same _ _ _)
  have zFA13_zh10 := (congrFun ezh10 _).symm.trans ((up_ne (by simp)).trans zFA13_zh9)
  have zFW0_zh10 := (congrFun ezh10 _).symm.trans ((up_ne (by simp)).trans zFW0_zh9)
  have zFW1_zh10 := (congrFun ezh10 _).symm.trans ((up_ne (by simp)).trans zFW1_zh9)
  have zFA15_zh10 := (congrFun ezh10 _).symm.trans ((up_ne (by simp)).trans zFA15_zh9)
  have zFX_zh10 := (congrFun ezh10 _).symm.trans ((up_ne (by simp)).trans zFX_zh9)
  have zFXH_zh10 := (congrFun ezh10 _).symm.trans ((up_ne (by simp)).trans zFXH_zh9)
  have zFXB_zh10 := (congrFun ezh10 _).symm.trans ((up_ne (by simp)).trans zFXB_zh9)
  have zFA18_zh10 := (congrFun ezh10 _).symm.trans ((up_ne (by simp)).trans zFA18_zh9)
  have zFT0_zh10 := (congrFun ezh10 _).symm.trans ((up_ne (by simp)).trans zFT0_zh9)
  have zFT1_zh10 := (congrFun ezh10 _).symm.trans ((up_ne (by simp)).trans zFT1_zh9)
  have zFS0_zh10 := (congrFun ezh10 _).symm.trans ((up_ne (by simp)).trans zFS0_zh9)
  have zFS021_zh10 := (congrFun ezh10 _).symm.trans ((up_ne (by simp)).trans zFS021_zh9)
  have zFS1_zh10 := (congrFun ezh10 _).symm.trans ((up_ne (by simp)).trans zFS1_zh9)
  have zFS121_zh10 := (congrFun ezh10 _).symm.trans ((up_ne (by simp)).trans zFS121_zh9)
  have zT_zh10 := (congrFun ezh10 _).symm.trans ((up_ne (by simp)).trans zT_zh9)
  have zT2_zh10 := (congrFun ezh10 _).symm.trans ((up_ne (by simp)).trans zT2_zh9)
  have zQ_zh10 := (congrFun ezh10 _).symm.trans ((up_ne (by simp)).trans zQ_zh9)
  have zQ4_zh10 := (congrFun ezh10 _).symm.trans ((up_ne (by simp)).trans zQ4_zh9)
  have zQ5_zh10 := (congrFun ezh10 _).symm.trans ((up_ne (by simp)).trans zQ5_zh9)
  have zQ6_zh10 := (congrFun ezh10 _).symm.trans ((up_ne (by simp)).trans zQ6_zh9)
  have zQ7_zh10 := (congrFun ezh10 _).symm.trans ((up_ne (by simp)).trans zQ7_zh9)
  have zQ8_zh10 := (congrFun ezh10 _).symm.trans ((up_ne (by simp)).trans zQ8_zh9)
  have zRQ_zh10 := (congrFun ezh10 _).symm.trans ((up_ne (by simp)).trans zRQ_zh9)
  have zQ10_zh10 := (congrFun ezh10 _).symm.trans ((up_ne (by simp)).trans zQ10_zh9)
  have zA11_zh10 := (congrFun ezh10 _).symm.trans ((up_ne (by simp)).trans zA11_zh9)
  have zA12_zh10 := (congrFun ezh10 _).symm.trans ((up_ne (by simp)).trans zA12_zh9)
  refine j_aload_n hc dX10_init_63 rfl ?_
  refine j_iconst hc dX10_init_64 ?_
  refine j_bipush hc dX10_init_65 (by decide) ?_
  refine j_mna hc dX10_init_67 clX10_44 ka_int zFA13_zh10 zFW0_zh10 zFW1_zh10 (by omega) (by omega) ?_
  generalize ezh11 : rwH _ = zh11
  have zB_zh11 := (congrFun ezh11 _).symm.trans ((rwH_ne (by simp) (by simp) (by simp)).trans zB_zh10)
  have zFA15_zh11 := (congrFun ezh11 _).symm.trans ((rwH_ne (by simp) (by simp) (by simp)).trans zFA15_zh10)
  have zFX_zh11 := (congrFun ezh11 _).symm.trans ((rwH_ne (by simp) (by simp) (by simp)).trans zFX_zh10)
  have zFXH_zh11 := (congrFun ezh11 _).symm.trans ((rwH_ne (by simp) (by simp) (by simp)).trans zFXH_zh10)
  have zFXB_zh11 := (congrFun ezh11 _).symm.trans ((rwH_ne (by simp) (by simp) (by simp)).trans zFXB_zh10)
  have zFA18_zh11 := (congrFun ezh11 _).symm.trans ((rwH_ne (by simp) (by simp) (by simp)).trans zFA18_zh10)
  have zFT0_zh11 := (congrFun ezh11 _).symm.trans ((rwH_ne (by simp) (by simp) (by simp)).trans zFT0_zh10)
  have zFT1_zh11 := (congrFun ezh11 _).symm.trans ((rwH_ne (by simp) (by simp) (by simp)).trans zFT1_zh10)
  have zFS0_zh11 := (congrFun ezh11 _).symm.trans ((rwH_ne (by simp) (by simp) (by simp)).trans zFS0_zh10)
  have zFS021_zh11 := (congrFun ezh11 _).symm.trans ((rwH_ne (by simp) (by simp) (by simp)).trans zFS021_zh10)
  have zFS1_zh11 := (congrFun ezh11 _).symm.trans ((rwH_ne (by simp) (by simp) (by simp)).trans zFS1_zh10)
  have zFS121_zh11 := (congrFun ezh11 _).symm.trans ((rwH_ne (by simp) (by simp) (by simp)).trans zFS121_zh10)
  have zT_zh11 := (congrFun ezh11 _).symm.trans ((rwH_ne (by simp) (by simp) (by simp)).trans zT_zh10)
  have zT2_zh11 := (congrFun ezh11 _).symm.trans ((rwH_ne (by simp) (by simp) (by simp)).trans zT2_zh10)
  have zQ_zh11 := (congrFun ezh11 _).symm.trans ((rwH_ne (by simp) (by simp) (by simp)).trans zQ_zh10)
  have zQ4_zh11 := (congrFun ezh11 _).symm.trans ((rwH_ne (by simp) (by simp) (by simp)).trans zQ4_zh10)
  have zQ5_zh11 := (congrFun ezh11 _).symm.trans ((rwH_ne (by simp) (by simp) (by simp)).trans zQ5_zh10)
  have zQ6_zh11 := (congrFun ezh11 _).symm.trans ((rwH_ne (by simp) (by simp) (by simp)).trans zQ6_zh10)
  have zQ7_zh11 := (congrFun ezh11 _).symm.trans ((rwH_ne (by simp) (by simp) (by simp)).trans zQ7_zh10)
  have zQ8_zh11 := (congrFun ezh11 _).symm.trans ((rwH_ne (by simp) (by simp) (by simp)).trans zQ8_zh10)
  have zRQ_zh11 := (congrFun ezh11 _).symm.trans ((rwH_ne (by simp) (by simp) (by simp)).trans zRQ_zh10)
  have zQ10_zh11 := (congrFun ezh11 _).symm.trans ((rwH_ne (by simp) (by simp) (by simp)).trans zQ10_zh10)
  have zA11_zh11 := (congrFun ezh11 _).symm.trans ((rwH_ne (by simp) (by simp) (by simp)).trans zA11_zh10)
  have zA12_zh11 := (congrFun ezh11 _).symm.trans ((rwH_ne (by simp) (by simp) (by simp)).trans zA12_zh10)
  have zA13_zh11 := (congrFun ezh11 _).symm.trans (rwH_13 _)
  have zW0_zh11 := (congrFun ezh11 _).symm.trans (rwH_140 _)
  have zW1_zh11 := (congrFun ezh11 _).symm.trans (rwH_141 _)
  refine j_putF (fs' := [_, _, _, _, _, _, _, _, _, _, _, _, _]) hc dX10_init_71 pX10_46 rfl zB_zh11 rfl rfl ?_
  generalize ezh12 : up _ _ _ = zh12
  have zB_zh12 := (congrFun ezh12 _).symm.trans (up_same _ _ _)
  have zFA15_zh12 := (congrFun ezh12 _).symm.trans ((up_ne (by simp)).trans zFA15_zh11)
  have zFX_zh12 := (congrFun ezh12 _).symm.trans ((up_ne (by simp)).trans zFX_zh11)
  have zFXH_zh12 := (congrFun ezh12 _).symm.trans ((up_ne (by simp)).trans zFXH_zh11)
  have zFXB_zh12 := (congrFun ezh12 _).symm.trans ((up_ne (by simp)).trans zFXB_zh11)
  have zFA18_zh12 := (congrFun ezh12 _).symm.trans ((up_ne (by simp)).trans zFA18_zh11)
  have zFT0_zh12 := (congrFun ezh12 _).symm.trans ((up_ne (by simp)).trans zFT0_zh11)
  have zFT1_zh12 := (congrFun ezh12 _).symm.trans ((up_ne (by simp)).trans zFT1_zh11)
  have zFS0_zh12 := (congrFun ezh12 _).symm.trans ((up_ne (by simp)).trans zFS0_zh11)
  have zFS021_zh12 := (congrFun ezh12 _).symm.trans ((up_ne (by simp)).trans zFS021_zh11)
  have zFS1_zh12 := (congrFun ezh12 _).symm.trans ((up_ne (by simp)).trans zFS1_zh11)
  have zFS121_zh12 := (congrFun ezh12 _).symm.trans ((up_ne (by simp)).trans zFS121_zh11)
  have zT_zh12 := (congrFun ezh12 _).symm.trans ((up_ne (by simp)).trans zT_zh11)
  have zT2_zh12 := (congrFun ezh12 _).symm.trans ((up_ne (by simp)).trans zT2_zh11)
  have zQ_zh12 := (congrFun ezh12 _).symm.trans ((up_ne (by simp)).trans zQ_zh11)
  have zQ4_zh12 := (congrFun ezh12 _).symm.trans ((up_ne (by simp)).trans zQ4_zh11)
  have zQ5_zh12 := (congrFun ezh12 _).symm.trans ((up_ne (by simp)).trans zQ5_zh11)
  have zQ6_zh12 := (congrFun ezh12 _).symm.trans ((up_ne (by simp)).trans zQ6_zh11)
  have zQ7_zh12 := (congrFun ezh12 _).symm.trans ((up_ne (by simp)).trans zQ7_zh11)
  have zQ8_zh12 := (congrFun ezh12 _).symm.trans ((up_ne (by simp)).trans zQ8_zh11)
  have zRQ_zh12 := (congrFun ezh12 _).symm.trans ((up_ne (by simp)).trans zRQ_zh11)
  have zQ10_zh12 := (congrFun ezh12 _).symm.trans ((up_ne (by simp)).trans zQ10_zh11)
  have zA11_zh12 := (congrFun ezh12 _).symm.trans ((up_ne (by simp)).trans zA11_zh11)
  have zA12_zh12 := (congrFun ezh12 _).symm.trans ((up_ne (by simp)).trans zA12_zh11)
  have zA13_zh12 := (congrFun ezh12 _).symm.trans ((up_ne (by simp)).trans zA13_zh11)
  have zW0_zh12 := (congrFun ezh12 _).symm.trans ((up_ne (by simp)).trans zW0_zh11)
  have zW1_zh12 := (congrFun ezh12 _).symm.trans ((up_ne (by simp)).trans zW1_zh11)
  refine j_aload_n hc dX10_init_74 rfl ?_
  refine j_iconst hc dX10_init_75 ?_
  refine j_newI (nm := (15, 0)) hc dX10_init_76 ka_int zFA15_zh12 (by omega) (by omega) (by omega) (by omega) ?_
  generalize ezh13 : up _ _ _ = zh13
  have zB_zh13 := (congrFun ezh13 _).symm.trans ((up_ne (by simp)).trans zB_zh12)
  have zFX_zh13 := (congrFun ezh13 _).symm.trans ((up_ne (by simp)).trans zFX_zh12)
  have zFXH_zh13 := (congrFun ezh13 _).symm.trans ((up_ne (by simp)).trans zFXH_zh12)
  have zFXB_zh13 := (congrFun ezh13 _).symm.trans ((up_ne (by simp)).trans zFXB_zh12)
  have zFA18_zh13 := (congrFun ezh13 _).symm.trans ((up_ne (by simp)).trans zFA18_zh12)
  have zFT0_zh13 := (congrFun ezh13 _).symm.trans ((up_ne (by simp)).trans zFT0_zh12)
  have zFT1_zh13 := (congrFun ezh13 _).symm.trans ((up_ne (by simp)).trans zFT1_zh12)
  have zFS0_zh13 := (congrFun ezh13 _).symm.trans ((up_ne (by simp)).trans zFS0_zh12)
  have zFS021_zh13 := (congrFun ezh13 _).symm.trans ((up_ne (by simp)).trans zFS021_zh12)
  have zFS1_zh13 := (congrFun ezh13 _).symm.trans ((up_ne (by simp)).trans zFS1_zh12)
  have zFS121_zh13 := (congrFun ezh13 _).symm.trans ((up_ne (by simp)).trans zFS121_zh12)
  have zT_zh13 := (congrFun ezh13 _).symm.trans ((up_ne (by simp)).trans zT_zh12)
  have zT2_zh13 := (congrFun ezh13 _).symm.trans ((up_ne (by simp)).trans zT2_zh12)
  have zQ_zh13 := (congrFun ezh13 _).symm.trans ((up_ne (by simp)).trans zQ_zh12)
  have zQ4_zh13 := (congrFun ezh13 _).symm.trans ((up_ne (by simp)).trans zQ4_zh12)
  have zQ5_zh13 := (congrFun ezh13 _).symm.trans ((up_ne (by simp)).trans zQ5_zh12)
  have zQ6_zh13 := (congrFun ezh13 _).symm.trans ((up_ne (by simp)).trans zQ6_zh12)
  have zQ7_zh13 := (congrFun ezh13 _).symm.trans ((up_ne (by simp)).trans zQ7_zh12)
  have zQ8_zh13 := (congrFun ezh13 _).symm.trans ((up_ne (by simp)).trans zQ8_zh12)
  have zRQ_zh13 := (congrFun ezh13 _).symm.trans ((up_ne (by simp)).trans zRQ_zh12)
  have zQ10_zh13 := (congrFun ezh13 _).symm.trans ((up_ne (by simp)).trans zQ10_zh12)
  have zA11_zh13 := (congrFun ezh13 _).symm.trans ((up_ne (by simp)).trans zA11_zh12)
  have zA12_zh13 := (congrFun ezh13 _).symm.trans ((up_ne (by simp)).trans zA12_zh12)
  have zA13_zh13 := (congrFun ezh13 _).symm.trans ((up_ne (by simp)).trans zA13_zh12)
  have zW0_zh13 := (congrFun ezh13 _).symm.trans ((up_ne (by simp)).trans zW0_zh12)
  have zW1_zh13 := (congrFun ezh13 _).symm.trans ((up_ne (by simp)).trans zW1_zh12)
  have zA15_zh13 := (congrFun ezh13 _).symm.trans (up_same _ _ _)
  refine j_putF (fs' := [_, _, _, _, _, _, _, _, _, _, _, _, _]) hc dX10_init_78 pX10_49 rfl zB_zh13 rfl rfl ?_
  generalize ezh14 : up _ _ _ = zh14
  have zB_zh14 := (congrFun ezh14 _).symm.trans (up_same _ _ _)
  have zFX_zh14 := (congrFun ezh14 _).symm.trans ((up_ne (by simp)).trans zFX_zh13)
  have zFXH_zh14 := (congrFun ezh14 _).symm.trans ((up_ne (by simp)).trans zFXH_zh13)
  have zFXB_zh14 := (congrFun ezh14 _).symm.trans ((up_ne (by simp)).trans zFXB_zh13)
  have zFA18_zh14 := (congrFun ezh14 _).symm.trans ((up_ne (by simp)).trans zFA18_zh13)
  have zFT0_zh14 := (congrFun ezh14 _).symm.trans ((up_ne (by simp)).trans zFT0_zh13)
  have zFT1_zh14 := (congrFun ezh14 _).symm.trans ((up_ne (by simp)).trans zFT1_zh13)
  have zFS0_zh14 := (congrFun ezh14 _).symm.trans ((up_ne (by simp)).trans zFS0_zh13)
  have zFS021_zh14 := (congrFun ezh14 _).symm.trans ((up_ne (by simp)).trans zFS021_zh13)
  have zFS1_zh14 := (congrFun ezh14 _).symm.trans ((up_ne (by simp)).trans zFS1_zh13)
  have zFS121_zh14 := (congrFun ezh14 _).symm.trans ((up_ne (by simp)).trans zFS121_zh13)
  have zT_zh14 := (congrFun ezh14 _).symm.trans ((up_ne (by simp)).trans zT_zh13)
  have zT2_zh14 := (congrFun ezh14 _).symm.trans ((up_ne (by simp)).trans zT2_zh13)
  have zQ_zh14 := (congrFun ezh14 _).symm.trans ((up_ne (by simp)).trans zQ_zh13)
  have zQ4_zh14 := (congrFun ezh14 _).symm.trans ((up_ne (by simp)).trans zQ4_zh13)
  have zQ5_zh14 := (congrFun ezh14 _).symm.trans ((up_ne (by simp)).trans zQ5_zh13)
  have zQ6_zh14 := (congrFun ezh14 _).symm.trans ((up_ne (by simp)).trans zQ6_zh13)
  have zQ7_zh14 := (congrFun ezh14 _).symm.trans ((up_ne (by simp)).trans zQ7_zh13)
  have zQ8_zh14 := (congrFun ezh14 _).symm.trans ((up_ne (by simp)).trans zQ8_zh13)
  have zRQ_zh14 := (congrFun ezh14 _).symm.trans ((up_ne (by simp)).trans zRQ_zh13)
  have zQ10_zh14 := (congrFun ezh14 _).symm.trans ((up_ne (by simp)).trans zQ10_zh13)
  have zA11_zh14 := (congrFun ezh14 _).symm.trans ((up_ne (by simp)).trans zA11_zh13)
  have zA12_zh14 := (congrFun ezh14 _).symm.trans ((up_ne (by simp)).trans zA12_zh13)
  have zA13_zh14 := (congrFun ezh14 _).symm.trans ((up_ne (by simp)).trans zA13_zh13)
  have zW0_zh14 := (congrFun ezh14 _).symm.trans ((up_ne (by simp)).trans zW0_zh13)
  have zW1_zh14 := (congrFun ezh14 _).symm.trans ((up_ne (by simp)).trans zW1_zh13)
  have zA15_zh14 := (congrFun ezh14 _).symm.trans ((up_ne (by simp)).trans zA15_zh13)
  refine j_aload_n hc dX10_init_81 rfl ?_
  refine j_newq (nm := (16, 0)) (zq := 2) rfl hc dX10_init_82 wX10_53 zFX_zh14 (by omega) (by omega) ?_
  generalize ezh15 : up _ _ _ = zh15
  have zB_zh15 := (congrFun ezh15 _).symm.trans ((up_ne (by simp)).trans zB_zh14)
  have zFXH_zh15 := (congrFun ezh15 _).symm.trans ((up_ne (by simp)).trans zFXH_zh14)
  have zFXB_zh15 := (congrFun ezh15 _).symm.trans ((up_ne (by simp)).trans zFXB_zh14)
  have zFA18_zh15 := (congrFun ezh15 _).symm.trans ((up_ne (by simp)).trans zFA18_zh14)
  have zFT0_zh15 := (congrFun ezh15 _).symm.trans ((up_ne (by simp)).trans zFT0_zh14)
  have zFT1_zh15 := (congrFun ezh15 _).symm.trans ((up_ne (by simp)).trans zFT1_zh14)
  have zFS0_zh15 := (congrFun ezh15 _).symm.trans ((up_ne (by simp)).trans zFS0_zh14)
  have zFS021_zh15 := (congrFun ezh15 _).symm.trans ((up_ne (by simp)).trans zFS021_zh14)
  have zFS1_zh15 := (congrFun ezh15 _).symm.trans ((up_ne (by simp)).trans zFS1_zh14)
  have zFS121_zh15 := (congrFun ezh15 _).symm.trans ((up_ne (by simp)).trans zFS121_zh14)
  have zT_zh15 := (congrFun ezh15 _).symm.trans ((up_ne (by simp)).trans zT_zh14)
  have zT2_zh15 := (congrFun ezh15 _).symm.trans ((up_ne (by simp)).trans zT2_zh14)
  have zQ_zh15 := (congrFun ezh15 _).symm.trans ((up_ne (by simp)).trans zQ_zh14)
  have zQ4_zh15 := (congrFun ezh15 _).symm.trans ((up_ne (by simp)).trans zQ4_zh14)
  have zQ5_zh15 := (congrFun ezh15 _).symm.trans ((up_ne (by simp)).trans zQ5_zh14)
  have zQ6_zh15 := (congrFun ezh15 _).symm.trans ((up_ne (by simp)).trans zQ6_zh14)
  have zQ7_zh15 := (congrFun ezh15 _).symm.trans ((up_ne (by simp)).trans zQ7_zh14)
  have zQ8_zh15 := (congrFun ezh15 _).symm.trans ((up_ne (by simp)).trans zQ8_zh14)
  have zRQ_zh15 := (congrFun ezh15 _).symm.trans ((up_ne (by simp)).trans zRQ_zh14)
  have zQ10_zh15 := (congrFun ezh15 _).symm.trans ((up_ne (by simp)).trans zQ10_zh14)
  have zA11_zh15 := (congrFun ezh15 _).symm.trans ((up_ne (by simp)).trans zA11_zh14)
  have zA12_zh15 := (congrFun ezh15 _).symm.trans ((up_ne (by simp)).trans zA12_zh14)
  have zA13_zh15 := (congrFun ezh15 _).symm.trans ((up_ne (by simp)).trans zA13_zh14)
  have zW0_zh15 := (congrFun ezh15 _).symm.trans ((up_ne (by simp)).trans zW0_zh14)
  have zW1_zh15 := (congrFun ezh15 _).symm.trans ((up_ne (by simp)).trans zW1_zh14)
  have zA15_zh15 := (congrFun ezh15 _).symm.trans ((up_ne (by simp)).trans zA15_zh14)
  have zX_zh15 := (congrFun ezh15 _).symm.trans (up_same _ _ _)
  refine j_dup hc dX10_init_85 rfl ?_
  refine j_callI (d' := d - 1) hc dX10_init_86 iX10_55 (ev_X6_init (by omega) zX_zh15 zFXH_zh15 zFXB_zh15) rfl (by omega) (by omega) (by omega) rfl rfl (Nat.le_of_ble_eq_true rfl) (retN fun zq86 zp86 => ?_)
  obtain ⟨⟨-, zX_, zXH_, zXg, zXB_⟩, zF86⟩ := zp86
  have zB_q86 := (zF86 _ (by show ¬ (_ ∨ _); decide)).trans zB_zh15
  have zFA18_q86 := (zF86 _ (by show ¬ (_ ∨ _); decide)).trans zFA18_zh15
  have zFT0_q86 := (zF86 _ (by show ¬ (_ ∨ _); decide)).trans zFT0_zh15
  have zFT1_q86 := (zF86 _ (by show ¬ (_ ∨ _); decide)).trans zFT1_zh15
  have zFS0_q86 := (zF86 _ (by show ¬ (_ ∨ _); decide)).trans zFS0_zh15
  have zFS021_q86 := (zF86 _ (by show ¬ (_ ∨ _); decide)).trans zFS021_zh15
  have zFS1_q86 := (zF86 _ (by show ¬ (_ ∨ _); decide)).trans zFS1_zh15
  have zFS121_q86 := (zF86 _ (by show ¬ (_ ∨ _); decide)).trans zFS121_zh15
  have zT_q86 := (zF86 _ (by show ¬ (_ ∨ _); decide)).trans zT_zh15
  have zT2_q86 := (zF86 _ (by show ¬ (_ ∨ _); decide)).trans zT2_zh15
  have zQ_q86 := (zF86 _ (by show ¬ (_ ∨ _); decide)).trans zQ_zh15
  have zQ4_q86 := (zF86 _ (by show ¬ (_ ∨ _); decide)).trans zQ4_zh15
  have zQ5_q86 := (zF86 _ (by show ¬ (_ ∨ _); decide)).trans zQ5_zh15
  have zQ6_q86 := (zF86 _ (by show ¬ (_ ∨ _); decide)).trans zQ6_zh15
  have zQ7_q86 := (zF86 _ (by show ¬ (_ ∨ _); decide)).trans zQ7_zh15
  have zQ8_q86 := (zF86 _ (by show ¬ (_ ∨ _); decide)).trans zQ8_zh15
  have zRQ_q86 := (zF86 _ (by show ¬ (_ ∨ _); decide)).trans zRQ_zh15
  have zQ10_q86 := (zF86 _ (by show ¬ (_ ∨ _); decide)).trans zQ10_zh15
  have zA11_q86 := (zF86 _ (by show ¬ (_ ∨ _); decide)).trans zA11_zh15
  have zA12_q86 := (zF86 _ (by show ¬ (_ ∨ _); decide)).trans zA12_zh15
  have zA13_q86 := (zF86 _ (by show ¬ (_ ∨ _); decide)).trans zA13_zh15
  have zW0_q86 := (zF86 _ (by show ¬ (_ ∨ _); decide)).trans zW0_zh15
  have zW1_q86 := (zF86 _ (by show ¬ (_ ∨ _); decide)).trans zW1_zh15
  have zA15_q86 := (zF86 _ (by show ¬ (_ ∨ _); decide)).trans zA15_zh15
  refine j_putF (fs' := [_, _, _, _, _, _, _, _, _, _, _, _, _]) hc dX10_init_89 pX10_56 rfl zB_q86 rfl rfl ?_
  generalize ezh16 : up _ _ _ = zh16
  have zB_zh16 := (congrFun ezh16 _).symm.trans (up_same _ _ _)
  have zFA18_zh16 := (congrFun ezh16 _).symm.trans ((up_ne (by simp)).trans zFA18_q86)
  have zFT0_zh16 := (congrFun ezh16 _).symm.trans ((up_ne (by simp)).trans zFT0_q86)
  have zFT1_zh16 := (congrFun ezh16 _).symm.trans ((up_ne (by simp)).trans zFT1_q86)
  have zFS0_zh16 := (congrFun ezh16 _).symm.trans ((up_ne (by simp)).trans zFS0_q86)
  have zFS021_zh16 := (congrFun ezh16 _).symm.trans ((up_ne (by simp)).trans zFS021_q86)
  have zFS1_zh16 := (congrFun ezh16 _).symm.trans ((up_ne (by simp)).trans zFS1_q86)
  have zFS121_zh16 := (congrFun ezh16 _).symm.trans ((up_ne (by simp)).trans zFS121_q86)
  have zT_zh16 := (congrFun ezh16 _).symm.trans ((up_ne (by simp)).trans zT_q86)
  have zT2_zh16 := (congrFun ezh16 _).symm.trans ((up_ne (by simp)).trans zT2_q86)
  have zQ_zh16 := (congrFun ezh16 _).symm.trans ((up_ne (by simp)).trans zQ_q86)
  have zQ4_zh16 := (congrFun ezh16 _).symm.trans ((up_ne (by simp)).trans zQ4_q86)
  have zQ5_zh16 := (congrFun ezh16 _).symm.trans ((up_ne (by simp)).trans zQ5_q86)
  have zQ6_zh16 := (congrFun ezh16 _).symm.trans ((up_ne (by simp)).trans zQ6_q86)
  have zQ7_zh16 := (congrFun ezh16 _).symm.trans ((up_ne (by simp)).trans zQ7_q86)
  have zQ8_zh16 := (congrFun ezh16 _).symm.trans ((up_ne (by simp)).trans zQ8_q86)
  have zRQ_zh16 := (congrFun ezh16 _).symm.trans ((up_ne (by simp)).trans zRQ_q86)
  have zQ10_zh16 := (congrFun ezh16 _).symm.trans ((up_ne (by simp)).trans zQ10_q86)
  have zA11_zh16 := (congrFun ezh16 _).symm.trans ((up_ne (by simp)).trans zA11_q86)
  have zA12_zh16 := (congrFun ezh16 _).symm.trans ((up_ne (by simp)).trans zA12_q86)
  have zA13_zh16 := (congrFun ezh16 _).symm.trans ((up_ne (by simp)).trans zA13_q86)
  have zW0_zh16 := (congrFun ezh16 _).symm.trans ((up_ne (by simp)).trans zW0_q86)
  have zW1_zh16 := (congrFun ezh16 _).symm.trans ((up_ne (by simp)).trans zW1_q86)
  have zA15_zh16 := (congrFun ezh16 _).symm.trans ((up_ne (by simp)).trans zA15_q86)
  have zX_zh16 := (congrFun ezh16 _).symm.trans ((up_ne (by simp)).trans zX_)
  have zXH_zh16 := (congrFun ezh16 _).symm.trans ((up_ne (by simp)).trans zXH_)
  have zXB_zh16 := (congrFun ezh16 _).symm.trans ((up_ne (by simp)).trans zXB_)
  refine j_aload_n hc dX10_init_92 rfl ?_
  refine j_iconst hc dX10_init_93 ?_
  refine j_anew (nm := (18, 0)) (kd := 7) hc dX10_init_94 clX10_60 (by decide) (by decide) rfl (by decide) zFA18_zh16 (by omega) (by omega) (by omega) (by omega) ?_
  generalize ezh17 : up _ _ _ = zh17
  have zB_zh17 := (congrFun ezh17 _).symm.trans ((up_ne (by simp)).trans zB_zh16)
  have zFT0_zh17 := (congrFun ezh17 _).symm.trans ((up_ne (by simp)).trans zFT0_zh16)
  have zFT1_zh17 := (congrFun ezh17 _).symm.trans ((up_ne (by simp)).trans zFT1_zh16)
  have zFS0_zh17 := (congrFun ezh17 _).symm.trans ((up_ne (by simp)).trans zFS0_zh16)
  have zFS021_zh17 := (congrFun ezh17 _).symm.trans ((up_ne (by simp)).trans zFS021_zh16)
  have zFS1_zh17 := (congrFun ezh17 _).symm.trans ((up_ne (by simp)).trans zFS1_zh16)
  have zFS121_zh17 := (congrFun ezh17 _).symm.trans ((up_ne (by simp)).trans zFS121_zh16)
  have zT_zh17 := (congrFun ezh17 _).symm.trans ((up_ne (by simp)).trans zT_zh16)
  have zT2_zh17 := (congrFun ezh17 _).symm.trans ((up_ne (by simp)).trans zT2_zh16)
  have zQ_zh17 := (congrFun ezh17 _).symm.trans ((up_ne (by simp)).trans zQ_zh16)
  have zQ4_zh17 := (congrFun ezh17 _).symm.trans ((up_ne (by simp)).trans zQ4_zh16)
  have zQ5_zh17 := (congrFun ezh17 _).symm.trans ((up_ne (by simp)).trans zQ5_zh16)
  have zQ6_zh17 := (congrFun ezh17 _).symm.trans ((up_ne (by simp)).trans zQ6_zh16)
  have zQ7_zh17 := (congrFun ezh17 _).symm.trans ((up_ne (by simp)).trans zQ7_zh16)
  have zQ8_zh17 := (congrFun ezh17 _).symm.trans ((up_ne (by simp)).trans zQ8_zh16)
  have zRQ_zh17 := (congrFun ezh17 _).symm.trans ((up_ne (by simp)).trans zRQ_zh16)
  have zQ10_zh17 := (congrFun ezh17 _).symm.trans ((up_ne (by simp)).trans zQ10_zh16)
  have zA11_zh17 := (congrFun ezh17 _).symm.trans ((up_ne (by simp)).trans zA11_zh16)
  have zA12_zh17 := (congrFun ezh17 _).symm.trans ((up_ne (by simp)).trans zA12_zh16)
  have zA13_zh17 := (congrFun ezh17 _).symm.trans ((up_ne (by simp)).trans zA13_zh16)
  have zW0_zh17 := (congrFun ezh17 _).symm.trans ((up_ne (by simp)).trans zW0_zh16)
  have zW1_zh17 := (congrFun ezh17 _).symm.trans ((up_ne (by simp)).trans zW1_zh16)
  have zA15_zh17 := (congrFun ezh17 _).symm.trans ((up_ne (by simp)).trans zA15_zh16)
  have zX_zh17 := (congrFun ezh17 _).symm.trans ((up_ne (by simp)).trans zX_zh16)
  have zXH_zh17 := (congrFun ezh17 _).symm.trans ((up_ne (by simp)).trans zXH_zh16)
  have zXB_zh17 := (congrFun ezh17 _).symm.trans ((up_ne (by simp)).trans zXB_zh16)
  have zA18_zh17 := (congrFun ezh17 _).symm.trans (up_same _ _ _)
  refine j_putF (fs' := [_, _, _, _, _, _, _, _, _, _, _, _, _]) hc dX10_init_97 pX10_62 rfl zB_zh17 rfl rfl ?_
  generalize ezh18 : up _ _ _ = zh18
  have zB_zh18 := (congrFun ezh18 _).symm.trans (up_same _ _ _)
  have zFT0_zh18 := (congrFun ezh18 _).symm.trans ((up_ne (by simp)).trans zFT0_zh17)
  have zFT1_zh18 := (congrFun ezh18 _).symm.trans ((up_ne (by simp)).trans zFT1_zh17)
  have zFS0_zh18 := (congrFun ezh18 _).symm.trans ((up_ne (by simp)).trans zFS0_zh17)
  have zFS021_zh18 := (congrFun ezh18 _).symm.trans ((up_ne (by simp)).trans zFS021_zh17)
  have zFS1_zh18 := (congrFun ezh18 _).symm.trans ((up_ne (by simp)).trans zFS1_zh17)
  have zFS121_zh18 := (congrFun ezh18 _).symm.trans ((up_ne (by simp)).trans zFS121_zh17)
  have zT_zh18 := (congrFun ezh18 _).symm.trans ((up_ne (by simp)).trans zT_zh17)
  have zT2_zh18 := (congrFun ezh18 _).symm.trans ((up_ne (by simp)).trans zT2_zh17)
  have zQ_zh18 := (congrFun ezh18 _).symm.trans ((up_ne (by simp)).trans zQ_zh17)
  have zQ4_zh18 := (congrFun ezh18 _).symm.trans ((up_ne (by simp)).trans zQ4_zh17)
  have zQ5_zh18 := (congrFun ezh18 _).symm.trans ((up_ne (by simp)).trans zQ5_zh17)
  have zQ6_zh18 := (congrFun ezh18 _).symm.trans ((up_ne (by simp)).trans zQ6_zh17)
  have zQ7_zh18 := (congrFun ezh18 _).symm.trans ((up_ne (by simp)).trans zQ7_zh17)
  have zQ8_zh18 := (congrFun ezh18 _).symm.trans ((up_ne (by simp)).trans zQ8_zh17)
  have zRQ_zh18 := (congrFun ezh18 _).symm.trans ((up_ne (by simp)).trans zRQ_zh17)
  have zQ10_zh18 := (congrFun ezh18 _).symm.trans ((up_ne (by simp)).trans zQ10_zh17)
  have zA11_zh18 := (congrFun ezh18 _).symm.trans ((up_ne (by simp)).trans zA11_zh17)
  have zA12_zh18 := (congrFun ezh18 _).symm.trans ((up_ne (by simp)).trans zA12_zh17)
  have zA13_zh18 := (congrFun ezh18 _).symm.trans ((up_ne (by simp)).trans zA13_zh17)
  have zW0_zh18 := (congrFun ezh18 _).symm.trans ((up_ne (by simp)).trans zW0_zh17)
  have zW1_zh18 := (congrFun ezh18 _).symm.trans ((up_ne (by simp)).trans zW1_zh17)
  have zA15_zh18 := (congrFun ezh18 _).symm.trans ((up_ne (by simp)).trans zA15_zh17)
  have zX_zh18 := (congrFun ezh18 _).symm.trans ((up_ne (by simp)).trans zX_zh17)
  have zXH_zh18 := (congrFun ezh18 _).symm.trans ((up_ne (by simp)).trans zXH_zh17)
  have zXB_zh18 := (congrFun ezh18 _).symm.trans ((up_ne (by simp)).trans zXB_zh17)
  have zA18_zh18 := (congrFun ezh18 _).symm.trans ((up_ne (by simp)).trans zA18_zh17)
  refine j_aload_n hc dX10_init_100 rfl ?_
  refine j_get hc dX10_init_101 fX10_62 zB_zh18 rfl ?_
  refine j_iconst hc dX10_init_104 ?_
  refine j_newq (nm := (19, 0)) (zq := 8) rfl hc dX10_init_105 wX10_60 zFT0_zh18 (by omega) (by omega) ?_
  generalize ezh19 : up _ _ _ = zh19
  have zB_zh19 := (congrFun ezh19 _).symm.trans ((up_ne (by simp)).trans zB_zh18)
  have zFT1_zh19 := (congrFun ezh19 _).symm.trans ((up_ne (by simp)).trans zFT1_zh18)
  have zFS0_zh19 := (congrFun ezh19 _).symm.trans ((up_ne (by simp)).trans zFS0_zh18)
  have zFS021_zh19 := (congrFun ezh19 _).symm.trans ((up_ne (by simp)).trans zFS021_zh18)
  have zFS1_zh19 := (congrFun ezh19 _).symm.trans ((up_ne (by simp)).trans zFS1_zh18)
  have zFS121_zh19 := (congrFun ezh19 _).symm.trans ((up_ne (by simp)).trans zFS121_zh18)
  have zT_zh19 := (congrFun ezh19 _).symm.trans ((up_ne (by simp)).trans zT_zh18)
  have zT2_zh19 := (congrFun ezh19 _).symm.trans ((up_ne (by simp)).trans zT2_zh18)
  have zQ_zh19 := (congrFun ezh19 _).symm.trans ((up_ne (by simp)).trans zQ_zh18)
  have zQ4_zh19 := (congrFun ezh19 _).symm.trans ((up_ne (by simp)).trans zQ4_zh18)
  have zQ5_zh19 := (congrFun ezh19 _).symm.trans ((up_ne (by simp)).trans zQ5_zh18)
  have zQ6_zh19 := (congrFun ezh19 _).symm.trans ((up_ne (by simp)).trans zQ6_zh18)
  have zQ7_zh19 := (congrFun ezh19 _).symm.trans ((up_ne (by simp)).trans zQ7_zh18)
  have zQ8_zh19 := (congrFun ezh19 _).symm.trans ((up_ne (by simp)).trans zQ8_zh18)
  have zRQ_zh19 := (congrFun ezh19 _).symm.trans ((up_ne (by simp)).trans zRQ_zh18)
  have zQ10_zh19 := (congrFun ezh19 _).symm.trans ((up_ne (by simp)).trans zQ10_zh18)
  have zA11_zh19 := (congrFun ezh19 _).symm.trans ((up_ne (by simp)).trans zA11_zh18)
  have zA12_zh19 := (congrFun ezh19 _).symm.trans ((up_ne (by simp)).trans zA12_zh18)
  have zA13_zh19 := (congrFun ezh19 _).symm.trans ((up_ne (by simp)).trans zA13_zh18)
  have zW0_zh19 := (congrFun ezh19 _).symm.trans ((up_ne (by simp)).trans zW0_zh18)
  have zW1_zh19 := (congrFun ezh19 _).symm.trans ((up_ne (by simp)).trans zW1_zh18)
  have zA15_zh19 := (congrFun ezh19 _).symm.trans ((up_ne (by simp)).trans zA15_zh18)
  have zX_zh19 := (congrFun ezh19 _).symm.trans ((up_ne (by simp)).trans zX_zh18)
  have zXH_zh19 := (congrFun ezh19 _).symm.trans ((up_ne (by simp)).trans zXH_zh18)
  have zXB_zh19 := (congrFun ezh19 _).symm.trans ((up_ne (by simp)).trans zXB_zh18)
  have zA18_zh19 := (congrFun ezh19 _).symm.trans ((up_ne (by simp)).trans zA18_zh18)
  have zT0_zh19 := (congrFun ezh19 _).symm.trans (up_same _ _ _)
  refine j_dup hc dX10_init_108 rfl ?_
  refine j_callIN (d' := d - 1) hc dX10_init_109 nX10_66 (ev_X9_init (by omega) zT0_zh19) rfl (by omega) (by omega) (by omega) rfl rfl (Nat.le_of_ble_eq_true rfl) (ret0 ?_)
  refine j_aast hc dX10_init_112 zA18_zh19 (by decide) (by decide) rfl rfl zT0_zh19 (by omega) (by omega) ?_
  generalize ezh20 : up _ _ _ = zh20
  have zB_zh20 := (congrFun ezh20 _).symm.trans ((up_ne (by simp)).trans zB_zh19)
  have zFT1_zh20 := (congrFun ezh20 _).symm.trans ((up_ne (by simp)).trans zFT1_zh19)
  have zFS0_zh20 := (congrFun ezh20 _).symm.trans ((up_ne (by simp)).trans zFS0_zh19)
  have zFS021_zh20 := (congrFun ezh20 _).symm.trans ((up_ne (by simp)).trans zFS021_zh19)
  have zFS1_zh20 := (congrFun ezh20 _).symm.trans ((up_ne (by simp)).trans zFS1_zh19)
  have zFS121_zh20 := (congrFun ezh20 _).symm.trans ((up_ne (by simp)).trans zFS121_zh19)
  have zT_zh20 := (congrFun ezh20 _).symm.trans ((up_ne (by simp)).trans zT_zh19)
  have zT2_zh20 := (congrFun ezh20 _).symm.trans ((up_ne (by simp)).trans zT2_zh19)
  have zQ_zh20 := (congrFun ezh20 _).symm.trans ((up_ne (by simp)).trans zQ_zh19)
  have zQ4_zh20 := (congrFun ezh20 _).symm.trans ((up_ne (by simp)).trans zQ4_zh19)
  have zQ5_zh20 := (congrFun ezh20 _).symm.trans ((up_ne (by simp)).trans zQ5_zh19)
  have zQ6_zh20 := (congrFun ezh20 _).symm.trans ((up_ne (by simp)).trans zQ6_zh19)
  have zQ7_zh20 := (congrFun ezh20 _).symm.trans ((up_ne (by simp)).trans zQ7_zh19)
  have zQ8_zh20 := (congrFun ezh20 _).symm.trans ((up_ne (by simp)).trans zQ8_zh19)
  have zRQ_zh20 := (congrFun ezh20 _).symm.trans ((up_ne (by simp)).trans zRQ_zh19)
  have zQ10_zh20 := (congrFun ezh20 _).symm.trans ((up_ne (by simp)).trans zQ10_zh19)
  have zA11_zh20 := (congrFun ezh20 _).symm.trans ((up_ne (by simp)).trans zA11_zh19)
  have zA12_zh20 := (congrFun ezh20 _).symm.trans ((up_ne (by simp)).trans zA12_zh19)
  have zA13_zh20 := (congrFun ezh20 _).symm.trans ((up_ne (by simp)).trans zA13_zh19)
  have zW0_zh20 := (congrFun ezh20 _).symm.trans ((up_ne (by simp)).trans zW0_zh19)
  have zW1_zh20 := (congrFun ezh20 _).symm.trans ((up_ne (by simp)).trans zW1_zh19)
  have zA15_zh20 := (congrFun ezh20 _).symm.trans ((up_ne (by simp)).trans zA15_zh19)
  have zX_zh20 := (congrFun ezh20 _).symm.trans ((up_ne (by simp)).trans zX_zh19)
  have zXH_zh20 := (congrFun ezh20 _).symm.trans ((up_ne (by simp)).trans zXH_zh19)
  have zXB_zh20 := (congrFun ezh20 _).symm.trans ((up_ne (by simp)).trans zXB_zh19)
  have zA18_zh20 := (congrFun ezh20 _).symm.trans (up_same _ _ _)
  have zT0_zh20 := (congrFun ezh20 _).symm.trans ((up_ne (by simp)).trans zT0_zh19)
  refine j_aload_n hc dX10_init_113 rfl ?_
  refine j_get hc dX10_init_114 fX10_62 zB_zh20 rfl ?_
  refine j_iconst hc dX10_init_117 ?_
  refine j_newq (nm := (19, 1)) (zq := 8) rfl hc dX10_init_118 wX10_60 zFT1_zh20 (by omega) (by omega) ?_
  generalize ezh21 : up _ _ _ = zh21
  have zB_zh21 := (congrFun ezh21 _).symm.trans ((up_ne (by simp)).trans zB_zh20)
  have zFS0_zh21 := (congrFun ezh21 _).symm.trans ((up_ne (by simp)).trans zFS0_zh20)
  have zFS021_zh21 := (congrFun ezh21 _).symm.trans ((up_ne (by simp)).trans zFS021_zh20)
  have zFS1_zh21 := (congrFun ezh21 _).symm.trans ((up_ne (by simp)).trans zFS1_zh20)
  have zFS121_zh21 := (congrFun ezh21 _).symm.trans ((up_ne (by simp)).trans zFS121_zh20)
  have zT_zh21 := (congrFun ezh21 _).symm.trans ((up_ne (by simp)).trans zT_zh20)
  have zT2_zh21 := (congrFun ezh21 _).symm.trans ((up_ne (by simp)).trans zT2_zh20)
  have zQ_zh21 := (congrFun ezh21 _).symm.trans ((up_ne (by simp)).trans zQ_zh20)
  have zQ4_zh21 := (congrFun ezh21 _).symm.trans ((up_ne (by simp)).trans zQ4_zh20)
  have zQ5_zh21 := (congrFun ezh21 _).symm.trans ((up_ne (by simp)).trans zQ5_zh20)
  have zQ6_zh21 := (congrFun ezh21 _).symm.trans ((up_ne (by simp)).trans zQ6_zh20)
  have zQ7_zh21 := (congrFun ezh21 _).symm.trans ((up_ne (by simp)).trans zQ7_zh20)
  have zQ8_zh21 := (congrFun ezh21 _).symm.trans ((up_ne (by simp)).trans zQ8_zh20)
  have zRQ_zh21 := (congrFun ezh21 _).symm.trans ((up_ne (by simp)).trans zRQ_zh20)
  have zQ10_zh21 := (congrFun ezh21 _).symm.trans ((up_ne (by simp)).trans zQ10_zh20)
  have zA11_zh21 := (congrFun ezh21 _).symm.trans ((up_ne (by simp)).trans zA11_zh20)
  have zA12_zh21 := (congrFun ezh21 _).symm.trans ((up_ne (by simp)).trans zA12_zh20)
  have zA13_zh21 := (congrFun ezh21 _).symm.trans ((up_ne (by simp)).trans zA13_zh20)
  have zW0_zh21 := (congrFun ezh21 _).symm.trans ((up_ne (by simp)).trans zW0_zh20)
  have zW1_zh21 := (congrFun ezh21 _).symm.trans ((up_ne (by simp)).trans zW1_zh20)
  have zA15_zh21 := (congrFun ezh21 _).symm.trans ((up_ne (by simp)).trans zA15_zh20)
  have zX_zh21 := (congrFun ezh21 _).symm.trans ((up_ne (by simp)).trans zX_zh20)
  have zXH_zh21 := (congrFun ezh21 _).symm.trans ((up_ne (by simp)).trans zXH_zh20)
  have zXB_zh21 := (congrFun ezh21 _).symm.trans ((up_ne (by simp)).trans zXB_zh20)
  have zA18_zh21 := (congrFun ezh21 _).symm.trans ((up_ne (by simp)).trans zA18_zh20)
  have zT0_zh21 := (congrFun ezh21 _).symm.trans ((up_ne (by simp)).trans zT0_zh20)
  have zT1_zh21 := (congrFun ezh21 _).symm.trans (up_same _ _ _)
  refine j_dup hc dX10_init_121 rfl ?_
  refine j_callIN (d' := d - 1) hc dX10_init_122 nX10_66 (ev_X9_init (by omega) zT1_zh21) rfl (by omega) (by omega) (by omega) rfl rfl (Nat.le_of_ble_eq_true rfl) (ret0 ?_)
  refine j_aast hc dX10_init_125 zA18_zh21 (by decide) (by decide) rfl rfl zT1_zh21 (by omega) (by omega) ?_
  generalize ezh22 : up _ _ _ = zh22
  have zB_zh22 := (congrFun ezh22 _).symm.trans ((up_ne (by simp)).trans zB_zh21)
  have zFS0_zh22 := (congrFun ezh22 _).symm.trans ((up_ne (by simp)).trans zFS0_zh21)
  have zFS021_zh22 := (congrFun ezh22 _).symm.trans ((up_ne (by simp)).trans zFS021_zh21)
  have zFS1_zh22 := (congrFun ezh22 _).symm.trans ((up_ne (by simp)).trans zFS1_zh21)
  have zFS121_zh22 := (congrFun ezh22 _).symm.trans ((up_ne (by simp)).trans zFS121_zh21)
  have zT_zh22 := (congrFun ezh22 _).symm.trans ((up_ne (by simp)).trans zT_zh21)
  have zT2_zh22 := (congrFun ezh22 _).symm.trans ((up_ne (by simp)).trans zT2_zh21)
  have zQ_zh22 := (congrFun ezh22 _).symm.trans ((up_ne (by simp)).trans zQ_zh21)
  have zQ4_zh22 := (congrFun ezh22 _).symm.trans ((up_ne (by simp)).trans zQ4_zh21)
  have zQ5_zh22 := (congrFun ezh22 _).symm.trans ((up_ne (by simp)).trans zQ5_zh21)
  have zQ6_zh22 := (congrFun ezh22 _).symm.trans ((up_ne (by simp)).trans zQ6_zh21)
  have zQ7_zh22 := (congrFun ezh22 _).symm.trans ((up_ne (by simp)).trans zQ7_zh21)
  have zQ8_zh22 := (congrFun ezh22 _).symm.trans ((up_ne (by simp)).trans zQ8_zh21)
  have zRQ_zh22 := (congrFun ezh22 _).symm.trans ((up_ne (by simp)).trans zRQ_zh21)
  have zQ10_zh22 := (congrFun ezh22 _).symm.trans ((up_ne (by simp)).trans zQ10_zh21)
  have zA11_zh22 := (congrFun ezh22 _).symm.trans ((up_ne (by simp)).trans zA11_zh21)
  have zA12_zh22 := (congrFun ezh22 _).symm.trans ((up_ne (by simp)).trans zA12_zh21)
  have zA13_zh22 := (congrFun ezh22 _).symm.trans ((up_ne (by simp)).trans zA13_zh21)
  have zW0_zh22 := (congrFun ezh22 _).symm.trans ((up_ne (by simp)).trans zW0_zh21)
  have zW1_zh22 := (congrFun ezh22 _).symm.trans ((up_ne (by simp)).trans zW1_zh21)
  have zA15_zh22 := (congrFun ezh22 _).symm.trans ((up_ne (by simp)).trans zA15_zh21)
  have zX_zh22 := (congrFun ezh22 _).symm.trans ((up_ne (by simp)).trans zX_zh21)
  have zXH_zh22 := (congrFun ezh22 _).symm.trans ((up_ne (by simp)).trans zXH_zh21)
  have zXB_zh22 := (congrFun ezh22 _).symm.trans ((up_ne (by simp)).trans zXB_zh21)
  have zA18_zh22 := (congrFun ezh22 _).symm.trans (up_same _ _ _)
  have zT0_zh22 := (congrFun ezh22 _).symm.trans ((up_ne (by simp)).trans zT0_zh21)
  have zT1_zh22 := (congrFun ezh22 _).symm.trans ((up_ne (by simp)).trans zT1_zh21)
  refine j_extA (f' := fun i => some (19, i)) zA18_zh22 (fun j hj => by rcases (by omega : j = 0 ∨ j = 1) with rfl | rfl <;> first | exact pr2_ru.1 | exact pr2_ru.2) ?_
  generalize ezh23 : up _ _ _ = zh23
  have zB_zh23 := (congrFun ezh23 _).symm.trans ((up_ne (by simp)).trans zB_zh22)
  have zFS0_zh23 := (congrFun ezh23 _).symm.trans ((up_ne (by simp)).trans zFS0_zh22)
  have zFS021_zh23 := (congrFun ezh23 _).symm.trans ((up_ne (by simp)).trans zFS021_zh22)
  have zFS1_zh23 := (congrFun ezh23 _).symm.trans ((up_ne (by simp)).trans zFS1_zh22)
  have zFS121_zh23 := (congrFun ezh23 _).symm.trans ((up_ne (by simp)).trans zFS121_zh22)
  have zT_zh23 := (congrFun ezh23 _).symm.trans ((up_ne (by simp)).trans zT_zh22)
  have zT2_zh23 := (congrFun ezh23 _).symm.trans ((up_ne (by simp)).trans zT2_zh22)
  have zQ_zh23 := (congrFun ezh23 _).symm.trans ((up_ne (by simp)).trans zQ_zh22)
  have zQ4_zh23 := (congrFun ezh23 _).symm.trans ((up_ne (by simp)).trans zQ4_zh22)
  have zQ5_zh23 := (congrFun ezh23 _).symm.trans ((up_ne (by simp)).trans zQ5_zh22)
  have zQ6_zh23 := (congrFun ezh23 _).symm.trans ((up_ne (by simp)).trans zQ6_zh22)
  have zQ7_zh23 := (congrFun ezh23 _).symm.trans ((up_ne (by simp)).trans zQ7_zh22)
  have zQ8_zh23 := (congrFun ezh23 _).symm.trans ((up_ne (by simp)).trans zQ8_zh22)
  have zRQ_zh23 := (congrFun ezh23 _).symm.trans ((up_ne (by simp)).trans zRQ_zh22)
  have zQ10_zh23 := (congrFun ezh23 _).symm.trans ((up_ne (by simp)).trans zQ10_zh22)
  have zA11_zh23 := (congrFun ezh23 _).symm.trans ((up_ne (by simp)).trans zA11_zh22)
  have zA12_zh23 := (congrFun ezh23 _).symm.trans ((up_ne (by simp)).trans zA12_zh22)
  have zA13_zh23 := (congrFun ezh23 _).symm.trans ((up_ne (by simp)).trans zA13_zh22)
  have zW0_zh23 := (congrFun ezh23 _).symm.trans ((up_ne (by simp)).trans zW0_zh22)
  have zW1_zh23 := (congrFun ezh23 _).symm.trans ((up_ne (by simp)).trans zW1_zh22)
  have zA15_zh23 := (congrFun ezh23 _).symm.trans ((up_ne (by simp)).trans zA15_zh22)
  have zX_zh23 := (congrFun ezh23 _).symm.trans ((up_ne (by simp)).trans zX_zh22)
  have zXH_zh23 := (congrFun ezh23 _).symm.trans ((up_ne (by simp)).trans zXH_zh22)
  have zXB_zh23 := (congrFun ezh23 _).symm.trans ((up_ne (by simp)).trans zXB_zh22)
  have zA18_zh23 := (congrFun ezh23 _).symm.trans (up_same _ _ _)
  have zT0_zh23 := (congrFun ezh23 _).symm.trans ((up_ne (by simp)).trans zT0_zh22)
  have zT1_zh23 := (congrFun ezh23 _).symm.trans ((up_ne (by simp)).trans zT1_zh22)
  refine j_aload_n hc dX10_init_126 rfl ?_
  refine j_newq (nm := (20, 0)) (zq := 4) rfl hc dX10_init_127 wX10_67 zFS0_zh23 (by omega) (by omega) ?_
  generalize ezh24 : up _ _ _ = zh24
  have zB_zh24 := (congrFun ezh24 _).symm.trans ((up_ne (by simp)).trans zB_zh23)
  have zFS021_zh24 := (congrFun ezh24 _).symm.trans ((up_ne (by simp)).trans zFS021_zh23)
  have zFS1_zh24 := (congrFun ezh24 _).symm.trans ((up_ne (by simp)).trans zFS1_zh23)
  have zFS121_zh24 := (congrFun ezh24 _).symm.trans ((up_ne (by simp)).trans zFS121_zh23)
  have zT_zh24 := (congrFun ezh24 _).symm.trans ((up_ne (by simp)).trans zT_zh23)
  have zT2_zh24 := (congrFun ezh24 _).symm.trans ((up_ne (by simp)).trans zT2_zh23)
  have zQ_zh24 := (congrFun ezh24 _).symm.trans ((up_ne (by simp)).trans zQ_zh23)
  have zQ4_zh24 := (congrFun ezh24 _).symm.trans ((up_ne (by simp)).trans zQ4_zh23)
  have zQ5_zh24 := (congrFun ezh24 _).symm.trans ((up_ne (by simp)).trans zQ5_zh23)
  have zQ6_zh24 := (congrFun ezh24 _).symm.trans ((up_ne (by simp)).trans zQ6_zh23)
  have zQ7_zh24 := (congrFun ezh24 _).symm.trans ((up_ne (by simp)).trans zQ7_zh23)
  have zQ8_zh24 := (congrFun ezh24 _).symm.trans ((up_ne (by simp)).trans zQ8_zh23)
  have zRQ_zh24 := (congrFun ezh24 _).symm.trans ((up_ne (by simp)).trans zRQ_zh23)
  have zQ10_zh24 := (congrFun ezh24 _).symm.trans ((up_ne (by simp)).trans zQ10_zh23)
  have zA11_zh24 := (congrFun ezh24 _).symm.trans ((up_ne (by simp)).trans zA11_zh23)
  have zA12_zh24 := (congrFun ezh24 _).symm.trans ((up_ne (by simp)).trans zA12_zh23)
  have zA13_zh24 := (congrFun ezh24 _).symm.trans ((up_ne (by simp)).trans zA13_zh23)
  have zW0_zh24 := (congrFun ezh24 _).symm.trans ((up_ne (by simp)).trans zW0_zh23)
  have zW1_zh24 := (congrFun ezh24 _).symm.trans ((up_ne (by simp)).trans zW1_zh23)
  have zA15_zh24 := (congrFun ezh24 _).symm.trans ((up_ne (by simp)).trans zA15_zh23)
  have zX_zh24 := (congrFun ezh24 _).symm.trans ((up_ne (by simp)).trans zX_zh23)
  have zXH_zh24 := (congrFun ezh24 _).symm.trans ((up_ne (by simp)).trans zXH_zh23)
  have zXB_zh24 := (congrFun ezh24 _).symm.trans ((up_ne (by simp)).trans zXB_zh23)
  have zA18_zh24 := (congrFun ezh24 _).symm.trans ((up_ne (by simp)).trans zA18_zh23)
  have zT0_zh24 := (congrFun ezh24 _).symm.trans ((up_ne (by simp)).trans zT0_zh23)
  have zT1_zh24 := (congrFun ezh24 _).symm.trans ((up_ne (by simp)).trans zT1_zh23)
  have zS0_zh24 := (congrFun ezh24 _).symm.trans (up_same _ _ _)
  refine j_dup hc dX10_init_130 rfl ?_
  refine j_iconst hc dX10_init_131 ?_
  refine j_callI (d' := d - 1) hc dX10_init_132 iX10_69 (ev_X7_init (by omega) zS0_zh24 zFS021_zh24 (by omega) (by omega)) rfl (by omega) (by omega) (by omega) rfl rfl (Nat.le_of_ble_eq_true rfl) (retN fun zq132 zp132 => ?_)
  obtain ⟨zS0_, zS021_, zF132⟩ := zp132
  have zB_q132 := (zF132 _ (by simp)).trans zB_zh24
  have zFS1_q132 := (zF132 _ (by simp)).trans zFS1_zh24
  have zFS121_q132 := (zF132 _ (by simp)).trans zFS121_zh24
  have zT_q132 := (zF132 _ (by simp)).trans zT_zh24
  have zT2_q132 := (zF132 _ (by simp)).trans zT2_zh24
  have zQ_q132 := (zF132 _ (by simp)).trans zQ_zh24
  have zQ4_q132 := (zF132 _ (by simp)).trans zQ4_zh24
  have zQ5_q132 := (zF132 _ (by simp)).trans zQ5_zh24
  have zQ6_q132 := (zF132 _ (by simp)).trans zQ6_zh24
  have zQ7_q132 := (zF132 _ (by simp)).trans zQ7_zh24
  have zQ8_q132 := (zF132 _ (by simp)).trans zQ8_zh24
  have zRQ_q132 := (zF132 _ (by simp)).trans zRQ_zh24
  have zQ10_q132 := (zF132 _ (by simp)).trans zQ10_zh24
  have zA11_q132 := (zF132 _ (by simp)).trans zA11_zh24
  have zA12_q132 := (zF132 _ (by simp)).trans zA12_zh24
  have zA13_q132 := (zF132 _ (by simp)).trans zA13_zh24
  have zW0_q132 := (zF132 _ (by simp)).trans zW0_zh24
  have zW1_q132 := (zF132 _ (by simp)).trans zW1_zh24
  have zA15_q132 := (zF132 _ (by simp)).trans zA15_zh24
  have zX_q132 := (zF132 _ (by simp)).trans zX_zh24
  have zXH_q132 := (zF132 _ (by simp)).trans zXH_zh24
  have zXB_q132 := (zF132 _ (by simp)).trans zXB_zh24
  have zA18_q132 := (zF132 _ (by simp)).trans zA18_zh24
  have zT0_q132 := (zF132 _ (by simp)).trans zT0_zh24
  have zT1_q132 := (zF132 _ (by simp)).trans zT1_zh24
  refine j_putF (fs' := [_, _, _, _, _, _, _, _, _, _, _, _, _]) hc dX10_init_135 pX10_72 rfl zB_q132 rfl rfl ?_
  generalize ezh25 : up _ _ _ = zh25
  have zB_zh25 := (congrFun ezh25 _).symm.trans (up_same _ _ _)
  have zFS1_zh25 := (congrFun ezh25 _).symm.trans ((up_ne (by simp)).trans zFS1_q132)
  have zFS121_zh25 := (congrFun ezh25 _).symm.trans ((up_ne (by simp)).trans zFS121_q132)
  have zT_zh25 := (congrFun ezh25 _).symm.trans ((up_ne (by simp)).trans zT_q132)
  have zT2_zh25 := (congrFun ezh25 _).symm.trans ((up_ne (by simp)).trans zT2_q132)
  have zQ_zh25 := (congrFun ezh25 _).symm.trans ((up_ne (by simp)).trans zQ_q132)
  have zQ4_zh25 := (congrFun ezh25 _).symm.trans ((up_ne (by simp)).trans zQ4_q132)
  have zQ5_zh25 := (congrFun ezh25 _).symm.trans ((up_ne (by simp)).trans zQ5_q132)
  have zQ6_zh25 := (congrFun ezh25 _).symm.trans ((up_ne (by simp)).trans zQ6_q132)
  have zQ7_zh25 := (congrFun ezh25 _).symm.trans ((up_ne (by simp)).trans zQ7_q132)
  have zQ8_zh25 := (congrFun ezh25 _).symm.trans ((up_ne (by simp)).trans zQ8_q132)
  have zRQ_zh25 := (congrFun ezh25 _).symm.trans ((up_ne (by simp)).trans zRQ_q132)
  have zQ10_zh25 := (congrFun ezh25 _).symm.trans ((up_ne (by simp)).trans zQ10_q132)
  have zA11_zh25 := (congrFun ezh25 _).symm.trans ((up_ne (by simp)).trans zA11_q132)
  have zA12_zh25 := (congrFun ezh25 _).symm.trans ((up_ne (by simp)).trans zA12_q132)
  have zA13_zh25 := (congrFun ezh25 _).symm.trans ((up_ne (by simp)).trans zA13_q132)
  have zW0_zh25 := (congrFun ezh25 _).symm.trans ((up_ne (by simp)).trans zW0_q132)
  have zW1_zh25 := (congrFun ezh25 _).symm.trans ((up_ne (by simp)).trans zW1_q132)
  have zA15_zh25 := (congrFun ezh25 _).symm.trans ((up_ne (by simp)).trans zA15_q132)
  have zX_zh25 := (congrFun ezh25 _).symm.trans ((up_ne (by simp)).trans zX_q132)
  have zXH_zh25 := (congrFun ezh25 _).symm.trans ((up_ne (by simp)).trans zXH_q132)
  have zXB_zh25 := (congrFun ezh25 _).symm.trans ((up_ne (by simp)).trans zXB_q132)
  have zA18_zh25 := (congrFun ezh25 _).symm.trans ((up_ne (by simp)).trans zA18_q132)
  have zT0_zh25 := (congrFun ezh25 _).symm.trans ((up_ne (by simp)).trans zT0_q132)
  have zT1_zh25 := (congrFun ezh25 _).symm.trans ((up_ne (by simp)).trans zT1_q132)
  have zS0_zh25 := (congrFun ezh25 _).symm.trans ((up_ne (by simp)).trans zS0_)
  have zS021_zh25 := (congrFun ezh25 _).symm.trans ((up_ne (by simp)).trans zS021_)
  refine j_aload_n hc dX10_init_138 rfl ?_
  refine j_newq (nm := (20, 1)) (zq := 4) rfl hc dX10_init_139 wX10_67 zFS1_zh25 (by omega) (by omega) ?_
  generalize ezh26 : up _ _ _ = zh26
  have zB_zh26 := (congrFun ezh26 _).symm.trans ((up_ne (by simp)).trans zB_zh25)
  have zFS121_zh26 := (congrFun ezh26 _).symm.trans ((up_ne (by simp)).trans zFS121_zh25)
  have zT_zh26 := (congrFun ezh26 _).symm.trans ((up_ne (by simp)).trans zT_zh25)
  have zT2_zh26 := (congrFun ezh26 _).symm.trans ((up_ne (by simp)).trans zT2_zh25)
  have zQ_zh26 := (congrFun ezh26 _).symm.trans ((up_ne (by simp)).trans zQ_zh25)
  have zQ4_zh26 := (congrFun ezh26 _).symm.trans ((up_ne (by simp)).trans zQ4_zh25)
  have zQ5_zh26 := (congrFun ezh26 _).symm.trans ((up_ne (by simp)).trans zQ5_zh25)
  have zQ6_zh26 := (congrFun ezh26 _).symm.trans ((up_ne (by simp)).trans zQ6_zh25)
  have zQ7_zh26 := (congrFun ezh26 _).symm.trans ((up_ne (by simp)).trans zQ7_zh25)
  have zQ8_zh26 := (congrFun ezh26 _).symm.trans ((up_ne (by simp)).trans zQ8_zh25)
  have zRQ_zh26 := (congrFun ezh26 _).symm.trans ((up_ne (by simp)).trans zRQ_zh25)
  have zQ10_zh26 := (congrFun ezh26 _).symm.trans ((up_ne (by simp)).trans zQ10_zh25)
  have zA11_zh26 := (congrFun ezh26 _).symm.trans ((up_ne (by simp)).trans zA11_zh25)
  have zA12_zh26 := (congrFun ezh26 _).symm.trans ((up_ne (by simp)).trans zA12_zh25)
  have zA13_zh26 := (congrFun ezh26 _).symm.trans ((up_ne (by simp)).trans zA13_zh25)
  have zW0_zh26 := (congrFun ezh26 _).symm.trans ((up_ne (by simp)).trans zW0_zh25)
  have zW1_zh26 := (congrFun ezh26 _).symm.trans ((up_ne (by simp)).trans zW1_zh25)
  have zA15_zh26 := (congrFun ezh26 _).symm.trans ((up_ne (by simp)).trans zA15_zh25)
  have zX_zh26 := (congrFun ezh26 _).symm.trans ((up_ne (by simp)).trans zX_zh25)
  have zXH_zh26 := (congrFun ezh26 _).symm.trans ((up_ne (by simp)).trans zXH_zh25)
  have zXB_zh26 := (congrFun ezh26 _).symm.trans ((up_ne (by simp)).trans zXB_zh25)
  have zA18_zh26 := (congrFun ezh26 _).symm.trans ((up_ne (by simp)).trans zA18_zh25)
  have zT0_zh26 := (congrFun ezh26 _).symm.trans ((up_ne (by simp)).trans zT0_zh25)
  have zT1_zh26 := (congrFun ezh26 _).symm.trans ((up_ne (by simp)).trans zT1_zh25)
  have zS0_zh26 := (congrFun ezh26 _).symm.trans ((up_ne (by simp)).trans zS0_zh25)
  have zS021_zh26 := (congrFun ezh26 _).symm.trans ((up_ne (by simp)).trans zS021_zh25)
  have zS1_zh26 := (congrFun ezh26 _).symm.trans (up_same _ _ _)
  refine j_dup hc dX10_init_142 rfl ?_
  refine j_iconst hc dX10_init_143 ?_
  refine j_callI (d' := d - 1) hc dX10_init_144 iX10_69 (ev_X7_init (by omega) zS1_zh26 zFS121_zh26 (by omega) (by omega)) rfl (by omega) (by omega) (by omega) rfl rfl (Nat.le_of_ble_eq_true rfl) (retN fun zq144 zp144 => ?_)
  obtain ⟨zS1_, zS121_, zF144⟩ := zp144
  have zB_q144 := (zF144 _ (by simp)).trans zB_zh26
  have zT_q144 := (zF144 _ (by simp)).trans zT_zh26
  have zT2_q144 := (zF144 _ (by simp)).trans zT2_zh26
  have zQ_q144 := (zF144 _ (by simp)).trans zQ_zh26
  have zQ4_q144 := (zF144 _ (by simp)).trans zQ4_zh26
  have zQ5_q144 := (zF144 _ (by simp)).trans zQ5_zh26
  have zQ6_q144 := (zF144 _ (by simp)).trans zQ6_zh26
  have zQ7_q144 := (zF144 _ (by simp)).trans zQ7_zh26
  have zQ8_q144 := (zF144 _ (by simp)).trans zQ8_zh26
  have zRQ_q144 := (zF144 _ (by simp)).trans zRQ_zh26
  have zQ10_q144 := (zF144 _ (by simp)).trans zQ10_zh26
  have zA11_q144 := (zF144 _ (by simp)).trans zA11_zh26
  have zA12_q144 := (zF144 _ (by simp)).trans zA12_zh26
  have zA13_q144 := (zF144 _ (by simp)).trans zA13_zh26
  have zW0_q144 := (zF144 _ (by simp)).trans zW0_zh26
  have zW1_q144 := (zF144 _ (by simp)).trans zW1_zh26
  have zA15_q144 := (zF144 _ (by simp)).trans zA15_zh26
  have zX_q144 := (zF144 _ (by simp)).trans zX_zh26
  have zXH_q144 := (zF144 _ (by simp)).trans zXH_zh26
  have zXB_q144 := (zF144 _ (by simp)).trans zXB_zh26
  have zA18_q144 := (zF144 _ (by simp)).trans zA18_zh26
  have zT0_q144 := (zF144 _ (by simp)).trans zT0_zh26
  have zT1_q144 := (zF144 _ (by simp)).trans zT1_zh26
  have zS0_q144 := (zF144 _ (by simp)).trans zS0_zh26
  have zS021_q144 := (zF144 _ (by simp)).trans zS021_zh26
  refine j_putF (fs' := [_, _, _, _, _, _, _, _, _, _, _, _, _]) hc dX10_init_147 pX10_76 rfl zB_q144 rfl rfl ?_
  generalize ezh27 : up _ _ _ = zh27
  have zB_zh27 := (congrFun ezh27 _).symm.trans (up_same _ _ _)
  have zT_zh27 := (congrFun ezh27 _).symm.trans ((up_ne (by simp)).trans zT_q144)
  have zT2_zh27 := (congrFun ezh27 _).symm.trans ((up_ne (by simp)).trans zT2_q144)
  have zQ_zh27 := (congrFun ezh27 _).symm.trans ((up_ne (by simp)).trans zQ_q144)
  have zQ4_zh27 := (congrFun ezh27 _).symm.trans ((up_ne (by simp)).trans zQ4_q144)
  have zQ5_zh27 := (congrFun ezh27 _).symm.trans ((up_ne (by simp)).trans zQ5_q144)
  have zQ6_zh27 := (congrFun ezh27 _).symm.trans ((up_ne (by simp)).trans zQ6_q144)
  have zQ7_zh27 := (congrFun ezh27 _).symm.trans ((up_ne (by simp)).trans zQ7_q144)
  have zQ8_zh27 := (congrFun ezh27 _).symm.trans ((up_ne (by simp)).trans zQ8_q144)
  have zRQ_zh27 := (congrFun ezh27 _).symm.trans ((up_ne (by simp)).trans zRQ_q144)
  have zQ10_zh27 := (congrFun ezh27 _).symm.trans ((up_ne (by simp)).trans zQ10_q144)
  have zA11_zh27 := (congrFun ezh27 _).symm.trans ((up_ne (by simp)).trans zA11_q144)
  have zA12_zh27 := (congrFun ezh27 _).symm.trans ((up_ne (by simp)).trans zA12_q144)
  have zA13_zh27 := (congrFun ezh27 _).symm.trans ((up_ne (by simp)).trans zA13_q144)
  have zW0_zh27 := (congrFun ezh27 _).symm.trans ((up_ne (by simp)).trans zW0_q144)
  have zW1_zh27 := (congrFun ezh27 _).symm.trans ((up_ne (by simp)).trans zW1_q144)
  have zA15_zh27 := (congrFun ezh27 _).symm.trans ((up_ne (by simp)).trans zA15_q144)
  have zX_zh27 := (congrFun ezh27 _).symm.trans ((up_ne (by simp)).trans zX_q144)
  have zXH_zh27 := (congrFun ezh27 _).symm.trans ((up_ne (by simp)).trans zXH_q144)
  have zXB_zh27 := (congrFun ezh27 _).symm.trans ((up_ne (by simp)).trans zXB_q144)
  have zA18_zh27 := (congrFun ezh27 _).symm.trans ((up_ne (by simp)).trans zA18_q144)
  have zT0_zh27 := (congrFun ezh27 _).symm.trans ((up_ne (by simp)).trans zT0_q144)
  have zT1_zh27 := (congrFun ezh27 _).symm.trans ((up_ne (by simp)).trans zT1_q144)
  have zS0_zh27 := (congrFun ezh27 _).symm.trans ((up_ne (by simp)).trans zS0_q144)
  have zS021_zh27 := (congrFun ezh27 _).symm.trans ((up_ne (by simp)).trans zS021_q144)
  have zS1_zh27 := (congrFun ezh27 _).symm.trans ((up_ne (by simp)).trans zS1_)
  have zS121_zh27 := (congrFun ezh27 _).symm.trans ((up_ne (by simp)).trans zS121_)
  have zfr1 : Fr (fun z : Nm => z.1 < 30) h zh1 := by rw [← ezh1]; exact (Fr.rf (fun z : Nm => z.1 < 30) h).push (by decide)
  have zfr2 : Fr (fun z : Nm => z.1 < 30) h zq9 := zfr1.tr (zF9.mono fun z zz => (by first | omega | (rcases zz with zz | zz <;> first | omega | (rw [zz]; decide)) | (rcases zz with zz | zz <;> (rw [zz]; simp))))
  have zfr3 : Fr (fun z : Nm => z.1 < 30) h zh2 := by rw [← ezh2]; exact zfr2.push (by decide)
  have zfr4 : Fr (fun z : Nm => z.1 < 30) h zh3 := by rw [← ezh3]; exact zfr3.push (by decide)
  have zfr5 : Fr (fun z : Nm => z.1 < 30) h zq24 := zfr4.tr (zF24.mono fun z zz => (by first | omega | (rcases zz with zz | zz <;> first | omega | (rw [zz]; decide)) | (rcases zz with zz | zz <;> (rw [zz]; simp))))
  have zfr6 : Fr (fun z : Nm => z.1 < 30) h zh4 := by rw [← ezh4]; exact zfr5.push (by decide)
  have zfr7 : Fr (fun z : Nm => z.1 < 30) h zh5 := by rw [← ezh5]; exact zfr6.push (by decide)
  have zfr8 : Fr (fun z : Nm => z.1 < 30) h zq39 := zfr7.tr (zF39.mono fun z zz => (by first | omega | (rcases zz with zz | zz <;> first | omega | (rw [zz]; decide)) | (rcases zz with zz | zz <;> (rw [zz]; simp))))
  have zfr9 : Fr (fun z : Nm => z.1 < 30) h zh6 := by rw [← ezh6]; exact zfr8.push (by decide)
  have zfr10 : Fr (fun z : Nm => z.1 < 30) h zh7 := by rw [← ezh7]; exact zfr9.push (by decide)
  have zfr11 : Fr (fun z : Nm => z.1 < 30) h zh8 := by rw [← ezh8]; exact zfr10.push (by decide)
  have zfr12 : Fr (fun z : Nm => z.1 < 30) h zh9 := by rw [← ezh9]; exact zfr11.push (by decide)
  have zfr13 : Fr (fun z : Nm => z.1 < 30) h zh10 := by rw [← ezh10]; exact zfr12.push (by decide)
  have zfr14 : Fr (fun z : Nm => z.1 < 30) h zh11 := zfr13.tr (fun z zz => by rw [← ezh11]; exact rwH_ne (fun e => zz (by rw [e]; decide)) (fun e => zz (by rw [e]; decide)) (fun e => zz (by rw [e]; decide)))
  have zfr15 : Fr (fun z : Nm => z.1 < 30) h zh12 := by rw [← ezh12]; exact zfr14.push (by decide)
  have zfr16 : Fr (fun z : Nm => z.1 < 30) h zh13 := by rw [← ezh13]; exact zfr15.push (by decide)
  have zfr17 : Fr (fun z : Nm => z.1 < 30) h zh14 := by rw [← ezh14]; exact zfr16.push (by decide)
  have zfr18 : Fr (fun z : Nm => z.1 < 30) h zh15 := by rw [← ezh15]; exact zfr17.push (by decide)
  have zfr19 : Fr (fun z : Nm => z.1 < 30) h zq86 := zfr18.tr (zF86.mono fun z zz => (by first | omega | (rcases zz with zz | zz <;> first | omega | (rw [zz]; decide)) | (rcases zz with zz | zz <;> (rw [zz]; simp))))
  have zfr20 : Fr (fun z : Nm => z.1 < 30) h zh16 := by rw [← ezh16]; exact zfr19.push (by decide)
  have zfr21 : Fr (fun z : Nm => z.1 < 30) h zh17 := by rw [← ezh17]; exact zfr20.push (by decide)
  have zfr22 : Fr (fun z : Nm => z.1 < 30) h zh18 := by rw [← ezh18]; exact zfr21.push (by decide)
  have zfr23 : Fr (fun z : Nm => z.1 < 30) h zh19 := by rw [← ezh19]; exact zfr22.push (by decide)
  have zfr24 : Fr (fun z : Nm => z.1 < 30) h zh20 := by rw [← ezh20]; exact zfr23.push (by decide)
  have zfr25 : Fr (fun z : Nm => z.1 < 30) h zh21 := by rw [← ezh21]; exact zfr24.push (by decide)
  have zfr26 : Fr (fun z : Nm => z.1 < 30) h zh22 := by rw [← ezh22]; exact zfr25.push (by decide)
  have zfr27 : Fr (fun z : Nm => z.1 < 30) h zh23 := by rw [← ezh23]; exact zfr26.push (by decide)
  have zfr28 : Fr (fun z : Nm => z.1 < 30) h zh24 := by rw [← ezh24]; exact zfr27.push (by decide)
  have zfr29 : Fr (fun z : Nm => z.1 < 30) h zq132 := zfr28.tr (zF132.mono fun z zz => (by first | omega | (rcases zz with zz | zz <;> first | omega | (rw [zz]; decide)) | (rcases zz with zz | zz <;> (rw [zz]; simp))))
  have zfr30 : Fr (fun z : Nm => z.1 < 30) h zh25 := by rw [← ezh25]; exact zfr29.push (by decide)
  have zfr31 : Fr (fun z : Nm => z.1 < 30) h zh26 := by rw [← ezh26]; exact zfr30.push (by decide)
  have zfr32 : Fr (fun z : Nm => z.1 < 30) h zq144 := zfr31.tr (zF144.mono fun z zz => (by first | omega | (rcases zz with zz | zz <;> first | omega | (rw [zz]; decide)) | (rcases zz with zz | zz <;> (rw [zz]; simp))))
  have zfr33 : Fr (fun z : Nm => z.1 < 30) h zh27 := by rw [← ezh27]; exact zfr32.push (by decide)
  have zFr := zfr33
  exact j_vret hc he dX10_init_150 rfl (by omega) (by omega) (by
    refine ⟨rfl, ⟨⟨⟨zB_zh27, zA11_zh27.trans (by rw [lnF_0]; rfl), zA12_zh27.trans (by rw [rnF_0]; rfl), zA13_zh27, zW0_zh27, zW1_zh27, zA15_zh27, zA18_zh27⟩, ⟨zT_zh27, zT2_zh27⟩, ⟨_, _, _, _, zQ_zh27, zQ4_zh27, zQ5_zh27, zQ6_zh27, zQ7_zh27, zQ8_zh27⟩, _, _, _, _, zRQ_zh27, zQ10_zh27⟩, ⟨0, _, Or.inl rfl, zX_zh27, zXH_zh27, _, zXB_zh27⟩, ⟨⟨none, 0, 0, 0, 0, 0, none, 0, zT0_zh27⟩, none, 0, 0, 0, 0, 0, none, 0, zT1_zh27⟩, ⟨zS0_zh27, zS021_zh27, _, _, _, _, zS1_zh27, zS121_zh27⟩, ⟨fun l l0 l1 => by have l1 : l < 0 := l1; omega, fun l l0 l1 z hz => ?_, fun r r0 r1 => by have r1 : r < 0 := r1; omega, fun r r0 r1 j j0 j1 => ?_⟩, bS0_ok⟩, zFr.mono fun z zz => by show z.1 < 70; omega⟩
    · rw [zFr z (by rcases hz with hz | hz <;> omega)]
      exact zf z (fun e => by rw [e] at hz; rcases hz with hz | hz <;> simp at hz) (by rcases hz with hz | hz <;> (show z.1 < 70; omega))
    · rw [zFr (j, r) (by show ¬ j < 30; omega)]
      exact zf (j, r) (by simp; omega) (by show j < 70; omega))
