/-! ===== the law: its script, its comparisons, its static calls ===== -/
def Sc (w : MC) (n : Nat) (xs : Nat → Int32) : Prop := match w with
  | (p, l, e, R, s, m, args, below, meth, c, Q, G, B, ρ0, h0) => ∃ b : Nat, args = #[Value.ref b] ∧ va_X b n xs s s.heap ∧ b < s.heap.size ∧ b < B ∧ n ≤ 4608 ∧ ZX B s
def scx (xs : Nat → Int32) (j : Int) : Int := (xs j.toNat).toInt
theorem scx_in (xs : Nat → Int32) (j : Int) : inI (scx xs j) := by
  have h1 := Int32.le_toInt (xs j.toNat)
  have h2 := Int32.toInt_lt (xs j.toNat)
  unfold scx
  exact ⟨by omega, by omega⟩
abbrev mdL_law : MD := (yL_law, cL_law, 7, some .boolean)
section LRules2
variable {w : MC} {k : WC} {d mc ms : Nat} {y : MD} {n1 n2 m1 m2 pc : Nat} {L : List (Option AV)} {st : List AV} {h : AH}
theorem l_icmp_same {v : Int} {off : Int} {tgt : Nat} (hc : Cx w k d mc ms y) (hd : decode y.2.1 pc = .ok (.if_icmp .eq off, 3)) (ht : (pc : Int) + off = (tgt : Int)) (kt : JL w n1 n2 tgt L st h) : JL w n1 n2 pc L (vI v :: vI v :: st) h := by
  obtain ⟨p, l, e, R, s, m, args, below, meth, c, Q, G, B, ρ0, h0⟩ := w
  obtain ⟨hx, hb, hml, hown, hts, hK, hlk, hBs, hnm, hfr, hlo, hce, hsl, hk, hret⟩ := hc
  intro ρ H locs ls hR hA hs hL hl hS
  exact lv_icmp_eq hx hb hd ht (fun q => kt ρ H locs ls hR hA (fun v hv => hs v (List.mem_cons_of_mem _ (List.mem_cons_of_mem _ hv))) hL hl hS) (fun q => absurd rfl q)
theorem l_lcmp_same {v : Int} (hc : Cx w k d mc ms y) (hd : decode y.2.1 pc = .ok (.lcmp, 1)) (kk : JL w n1 n2 (pc + 1) L (vI 0 :: st) h) : JL w n1 n2 pc L (vL v :: vL v :: st) h := by
  obtain ⟨p, l, e, R, s, m, args, below, meth, c, Q, G, B, ρ0, h0⟩ := w
  obtain ⟨hx, hb, hml, hown, hts, hK, hlk, hBs, hnm, hfr, hlo, hce, hsl, hk, hret⟩ := hc
  intro ρ H locs ls hR hA hs hL hl hS
  have K := kk ρ H locs ls hR hA (List.forall_mem_cons.mpr ⟨trivial, fun v hv => hs v (List.mem_cons_of_mem _ (List.mem_cons_of_mem _ hv))⟩) hL hl hS
  refine W.lcmp hx hb hd ?_
  have e : lg_cmp (Int64.ofInt v) (Int64.ofInt v) = Int32.ofInt 0 := by
    unfold lg_cmp
    rw [if_neg (by simp), if_pos rfl]
    rfl
  rw [e]
  exact K
theorem vpz_in {n : Nat} {j : Int} (h0 : 0 ≤ j) (h1 : j < n) (hn : n ≤ 4608) : vp_in (Int32.ofInt j) n := by
  rintro (q | q)
  · rw [i32_zero, i32_lt ⟨by omega, by omega⟩ ⟨by omega, by omega⟩] at q
    omega
  · rw [i32_nat h0 (by omega)] at q
    omega
theorem sld_fin {p : Program} {l : Launch} {e : Env} {R : Room} {s : State} {m : MethodId} {args : Array Value} {below : List Frame} {meth : Method} {c : Code} {Q : State → Prop} {B : Nat} {ρ : Nm → Nat} {H : Heap} {locs : List Loc} {ls : Array Slot} {n b : Nat} {xs : Nat → Int32} {j : Int} {cc : ByteArray}
    (hx : p.tables.exec = Jvm.exec) (hb : c.code = cc) (hX : va_X b n xs s s.heap) (hbl : b < s.heap.size) (hbB : b < B) (hn : n ≤ 4608) (hS : va_S (fun q => B ≤ q) s.heap H locs) (h0j : 0 ≤ j) (h1j : j < n) (hd : decode cc pc = .ok (.iaload, 1))
    (kk : W p l e R s m args below meth c H locs n1 n2 Q (F0 m (pc + 1) ls ((vI (scx xs j) :: st).map (val ρ)))) : W p l e R s m args below meth c H locs n1 n2 Q (F0 m pc ls (.int (Int32.ofInt j) :: .ref b :: st.map (val ρ))) := by
  refine va_sld hx hb hX hbl (Nat.not_le.mpr hbB) hS (vpz_in h0j h1j hn) hd ?_
  rw [i32_nat h0j (by omega)]
  have e : val ρ (vI (scx xs j)) = .int (xs j.toNat) := by
    show Value.int (Int32.ofInt (xs j.toNat).toInt) = _
    rw [Int32.ofInt_toInt]
  rw [List.map_cons, e] at kk
  exact kk
theorem l_arg {n : Nat} {xs : Nat → Int32} {i kc : Int} (hc : Cx w k d mc ms y) (hsc : Sc w n xs) (d0 : decode y.2.1 pc = .ok (.aload_n 0, 1)) (d1 : decode y.2.1 (pc + 1) = .ok (.iload 4, 2)) (d3 : decode y.2.1 (pc + 3) = .ok (.iconst kc, 1)) (d4 : decode y.2.1 (pc + 4) = .ok (.iadd, 1)) (d5 : decode y.2.1 (pc + 5) = .ok (.iaload, 1)) (hi : L[4]? = some (some (vI i))) (h0i : 0 ≤ i + kc) (h1i : i + kc < n) (kk : JL w n1 n2 (pc + 6) L (vI (scx xs (i + kc)) :: st) h) : JL w n1 n2 pc L st h := by
  obtain ⟨p, l, e, R, s, m, args, below, meth, c, Q, G, B, ρ0, h0⟩ := w
  obtain ⟨hx, hb, hml, hown, hts, hK, hlk, hBs, hnm, hfr, hlo, hce, hsl, hk, hret⟩ := hc
  obtain ⟨b, rfl, hX, hbl, hbB, hn, -⟩ := hsc
  intro ρ H locs ls hR hA hs hL hl hS
  have K := kk ρ H locs ls hR hA (List.forall_mem_cons.mpr ⟨trivial, hs⟩) hL hl hS
  obtain ⟨b9, eb, hl0⟩ := hl.2.2.2
  cases eb
  refine lv_aload_n hx hb d0 rfl hl0 (lv_iload hx hb d1 (hl.2.2.1 4 _ hi) (lv_iconst hx hb d3 rfl (lv_iadd hx hb d4 ?_)))
  rw [← Int32.ofInt_add]
  exact sld_fin (st := st) (ρ := ρ) hx hb hX hbl hbB hn hS h0i h1i d5 K
theorem l_argB {n : Nat} {xs : Nat → Int32} {i kc : Int} (hc : Cx w k d mc ms y) (hsc : Sc w n xs) (d0 : decode y.2.1 pc = .ok (.aload_n 0, 1)) (d1 : decode y.2.1 (pc + 1) = .ok (.iload 4, 2)) (d3 : decode y.2.1 (pc + 3) = .ok (.bipush kc, 2)) (hkc : (Int8.ofInt kc).toInt32 = Int32.ofInt kc) (d4 : decode y.2.1 (pc + 5) = .ok (.iadd, 1)) (d5 : decode y.2.1 (pc + 6) = .ok (.iaload, 1)) (hi : L[4]? = some (some (vI i))) (h0i : 0 ≤ i + kc) (h1i : i + kc < n) (kk : JL w n1 n2 (pc + 7) L (vI (scx xs (i + kc)) :: st) h) : JL w n1 n2 pc L st h := by
  obtain ⟨p, l, e, R, s, m, args, below, meth, c, Q, G, B, ρ0, h0⟩ := w
  obtain ⟨hx, hb, hml, hown, hts, hK, hlk, hBs, hnm, hfr, hlo, hce, hsl, hk, hret⟩ := hc
  obtain ⟨b, rfl, hX, hbl, hbB, hn, -⟩ := hsc
  intro ρ H locs ls hR hA hs hL hl hS
  have K := kk ρ H locs ls hR hA (List.forall_mem_cons.mpr ⟨trivial, hs⟩) hL hl hS
  obtain ⟨b9, eb, hl0⟩ := hl.2.2.2
  cases eb
  refine lv_aload_n hx hb d0 rfl hl0 (lv_iload hx hb d1 (hl.2.2.1 4 _ hi) (lv_bipush hx hb d3 hkc (lv_iadd hx hb d4 ?_)))
  rw [← Int32.ofInt_add]
  exact sld_fin (st := st) (ρ := ρ) hx hb hX hbl hbB hn hS h0i h1i d5 K
theorem l_arg0 {n : Nat} {xs : Nat → Int32} {i : Int} (hc : Cx w k d mc ms y) (hsc : Sc w n xs) (d0 : decode y.2.1 pc = .ok (.aload_n 0, 1)) (d1 : decode y.2.1 (pc + 1) = .ok (.iload 4, 2)) (d5 : decode y.2.1 (pc + 3) = .ok (.iaload, 1)) (hi : L[4]? = some (some (vI i))) (h0i : 0 ≤ i) (h1i : i < n) (kk : JL w n1 n2 (pc + 4) L (vI (scx xs i) :: st) h) : JL w n1 n2 pc L st h := by
  obtain ⟨p, l, e, R, s, m, args, below, meth, c, Q, G, B, ρ0, h0⟩ := w
  obtain ⟨hx, hb, hml, hown, hts, hK, hlk, hBs, hnm, hfr, hlo, hce, hsl, hk, hret⟩ := hc
  obtain ⟨b, rfl, hX, hbl, hbB, hn, -⟩ := hsc
  intro ρ H locs ls hR hA hs hL hl hS
  have K := kk ρ H locs ls hR hA (List.forall_mem_cons.mpr ⟨trivial, hs⟩) hL hl hS
  obtain ⟨b9, eb, hl0⟩ := hl.2.2.2
  cases eb
  exact lv_aload_n hx hb d0 rfl hl0 (lv_iload hx hb d1 (hl.2.2.1 4 _ hi) (sld_fin (st := st) (ρ := ρ) hx hb hX hbl hbB hn hS h0i h1i d5 K))
theorem l_slen {n : Nat} {xs : Nat → Int32} (hc : Cx w k d mc ms y) (hsc : Sc w n xs) (d0 : decode y.2.1 pc = .ok (.aload_n 0, 1)) (d1 : decode y.2.1 (pc + 1) = .ok (.arraylength, 1)) (kk : JL w n1 n2 (pc + 2) L (vI (n : Int) :: st) h) : JL w n1 n2 pc L st h := by
  obtain ⟨p, l, e, R, s, m, args, below, meth, c, Q, G, B, ρ0, h0⟩ := w
  obtain ⟨hx, hb, hml, hown, hts, hK, hlk, hBs, hnm, hfr, hlo, hce, hsl, hk, hret⟩ := hc
  obtain ⟨b, rfl, hX, hbl, hbB, hn, -⟩ := hsc
  intro ρ H locs ls hR hA hs hL hl hS
  have K := kk ρ H locs ls hR hA (List.forall_mem_cons.mpr ⟨trivial, hs⟩) hL hl hS
  obtain ⟨b9, eb, hl0⟩ := hl.2.2.2
  cases eb
  exact lv_aload_n hx hb d0 rfl hl0 (va_slen hx hb hX hbl (Nat.not_le.mpr hbB) hS d1 K)
def SSW (own : String) (idx n : Nat) (y : MD) (hh : List (Nat × Nat × Nat × Nat)) : Prop := Cond.methodLink own idx y.1 ∈ tb ∧ Cond.static y.1 ∈ tb ∧ (y.1.cls ≠ "java/lang/invoke/MethodHandle" ∧ y.1.cls ≠ "java/lang/invoke/VarHandle" ∧ (parseMethodDescriptor y.1.desc).map (fun d => d.parameters.length) = some n) ∧ y.2.2.1 ≤ 60 ∧ Cond.codeWith y.1 y.2.1 y.2.2.1 y.2.2.2 hh ∈ tb ∧ Cond.initialized y.1.cls ∈ tb
theorem tb_codeW {y : MD} {hh : List (Nat × Nat × Nat × Nat)} (hm : Cond.codeWith y.1 y.2.1 y.2.2.1 y.2.2.2 hh ∈ tb) : GoodIn tb (Cond.codeWith y.1 y.2.1 y.2.2.1 y.2.2.2 hh :: tb) := fun w hw => by
  rcases List.mem_cons.mp hw with rfl | hw
  · exact ⟨hm, tb_good _ hm⟩
  · exact ⟨hw, tb_good _ hw⟩
theorem l_callSW {idx : Nat} {d' n mc' ms' nn : Nat} {xs : Nat → Int32} {as : List AV} {y' : MD} {hh : List (Nat × Nat × Nat × Nat)} {st0 : List AV} {Post : Option AV → AH → Prop} (hc : Cx w k d mc ms y) (hsc : Sc w nn xs) (hd : decode y.2.1 pc = .ok (.invokestatic idx, 3)) (hs0 : SSW y.1.cls idx n y' hh) (he : EvW k d' y' hh h as mc' ms' Post) (hst : st0 = as.reverse ++ st) (hd' : d' + 1 ≤ d) (h1 : n1 + mc' ≤ mc) (h2 : n2 + ms' ≤ ms) (hLl : L.length = y.2.2.1) (hn : as.length = n) (hw : (st.map vcat).sum ≤ 8) (kk : ∀ (r : Option AV) (h' : AH), Post r h' → JL w (n1 + mc') (n2 + ms') (pc + 3) L (r.toList ++ st) h') : JL w n1 n2 pc L st0 h := by
  obtain ⟨p, l, e, R, s, m, args, below, meth, c, Q, G, B, ρ0, h0⟩ := w
  obtain ⟨hx, hb, hml, hown, hts, hK, hlk, hBs, hnm, hfr, hlo, hce, hsl, rfl, hret⟩ := hc
  obtain ⟨b, rfl, hX, hbl, hbB, hnn, hzx⟩ := hsc
  intro ρ H locs ls hR hA hs hL hl hS
  subst hst
  subst hn
  obtain ⟨hlink, hstat, hnames, h60, hcw, hini⟩ := hs0
  have hcas : ∀ v ∈ as, Cl h v := fun v hv => hs v (List.mem_append_left _ (List.mem_reverse.mpr hv))
  have hs' : ∀ v ∈ st, Cl h v := fun v hv => hs v (List.mem_append_right _ hv)
  have hcat : ((st.map (val ρ)).map fun v => v.category).sum ≤ 8 := by
    rw [List.map_map]
    have e9 : ((fun v : Value => v.category) ∘ val ρ) = vcat := funext fun v => val_cat ρ v
    rw [e9]; exact hw
  refine call_finL hA hs' hL hl hS (vx_runSW (As := as.map (val ρ)) (hh := hh) (bytes := y'.2.1) (maxL := y'.2.2.1) (ret := y'.2.2.2) ⟨hx, hb, hml, hown, hts⟩ (he ρ) ⟨⟨rfl, rfl, by show d' + 1 ≤ R.frames; omega, by show 8 + (y'.2.2.1 + 11) + 100 * d' ≤ R.locals; omega, pay_in hts (tb_codeW hcw), List.mem_cons_self⟩, hts _ hcw, hts _ hini, ⟨hnames.1, hnames.2.1⟩, fun sig h9 => by
      have h2 := hnames.2.2
      rw [h9] at h2
      exact (Option.some.inj h2).symm, hts _ hlink, hts _ hstat⟩ ⟨PcX.blind, fun U hU hW => ⟨⟨rfl, hcas, by rw [hU]; exact hR, hK.warm hW, by rw [hU]; exact Nat.le_trans hBs hS.1⟩, hzx.go hS hU hW⟩⟩ rfl (by simp) (by show ls.size = y.2.2.1; rw [hl.1]; exact hLl) (by show ((as.reverse ++ st).map (val ρ)) = (as.map (val ρ)).reverse ++ st.map (val ρ); simp) (by show 2 * 0 + _ ≤ 8; rw [Nat.mul_zero, Nat.zero_add]; exact hcat) hd ⟨Nat.le_trans h1 hce, Nat.le_trans h2 hsl⟩) kk
end LRules2
theorem sL_56 : SSW RL 56 6 mdL_harvest [(0, 14, 17, 13)] := ⟨(tb_in 1135 (by decide +kernel) rfl), (tb_in 1136 (by decide +kernel) rfl), ⟨by decide, by decide, by decide +kernel⟩, by decide, (tb_in 1137 (by decide +kernel) rfl), (tb_in 100 (by decide +kernel) rfl)⟩
theorem sL_82 : SSW RL 82 8 mdL_worth [(0, 18, 21, 13)] := ⟨(tb_in 1210 (by decide +kernel) rfl), (tb_in 1211 (by decide +kernel) rfl), ⟨by decide, by decide, by decide +kernel⟩, by decide, (tb_in 1212 (by decide +kernel) rfl), (tb_in 100 (by decide +kernel) rfl)⟩
theorem sL_164 : SSW RL 164 5 mdL_ran [(0, 12, 15, 13)] := ⟨(tb_in 1219 (by decide +kernel) rfl), (tb_in 1220 (by decide +kernel) rfl), ⟨by decide, by decide, by decide +kernel⟩, by decide, (tb_in 1221 (by decide +kernel) rfl), (tb_in 100 (by decide +kernel) rfl)⟩
/-- class and reference in one state -/
def LwS (h : AH) (S : BaS) (th : Int) (f : Int → Int) : Prop := BarnAt h S ∧ ModAt h S th ∧ h (99, 0) = some (oL 1 f)
theorem ModAt.fr {h h' : AH} {S : BaS} {th : Int} (q : ∀ z : Nm, isMo z → h' z = h z) (a : ModAt h S th) : ModAt h' S th := by
  obtain ⟨s, A, a1, a2, a3, a4, a5⟩ := a
  refine ⟨s, A, MdS.fr (fun z hz => q z ?_) a1, a2, MoB.fq (fun z hz => q z (Or.inr (by omega))) a3, MoX.fq (fun z hz _ _ => q z (Or.inr (by omega))) a4, a5⟩
  rcases hz with hz | hz | hz | hz
  · rw [hz]; exact Or.inl rfl
  · exact Or.inr (by omega)
  · exact Or.inr (by omega)
  · exact Or.inr (by omega)
theorem LwS.ba {h h' : AH} {S : BaS} {th : Int} {f : Int → Int} (a : LwS h S th f) (F : Fr isBa h h') : ModAt h' S th ∧ h' (99, 0) = some (oL 1 f) :=
  ⟨a.2.1.fr (fun z hz => F z (fun y => by have y : z.1 < 70 := y; rcases hz with hz | hz <;> omega)), (F _ (by show ¬ (99 < 70); decide)).trans a.2.2⟩
theorem LwS.bl {h h' : AH} {S : BaS} {th : Int} {f : Int → Int} (a : LwS h S th f) (F : Fr isBL h h') : ModAt h' S th :=
  a.2.1.fr (fun z hz => F z (fun y => by
    rcases y with y | y
    · have y : z.1 < 70 := y
      rcases hz with hz | hz <;> omega
    · rw [y] at hz
      rcases hz with hz | hz
      · exact absurd hz (by decide)
      · exact absurd hz (by decide)))
theorem BarnAt.mo {h h' : AH} {S : BaS} (a : BarnAt h S) (F : Fr isMo h h') : BarnAt h' S := a.fr (fun z hz => F z (fun y => by rcases y with y | y <;> omega))
theorem mo_99 {h h' : AH} {f : Int → Int} (F : Fr isMo h h') (a : h (99, 0) = some (oL 1 f)) : h' (99, 0) = some (oL 1 f) := (F _ (by intro y; rcases y with y | y <;> revert y <;> decide)).trans a
