/-! ===== arraycopy of ints from the beginning, two rows of ints ===== -/
section Rules4
variable {w : MC} {k : WC} {d mc ms : Nat} {y : MD} {n1 n2 pc : Nat} {L : List (Option AV)} {st : List AV} {h : AH}
def cpF (f g : Int → Int) (n : Int) : Int → Int := fun x => if 0 ≤ x ∧ x < n then f x else g x
theorem j_copyI {a0 a1 : Nm} {idx m0 m1 : Nat} {f g : Int → Int} {n : Int} (hc : Cx w k d mc ms y) (hd : decode y.2.1 pc = .ok (.invokestatic idx, 3)) (hw : Cond.methodLink y.1.cls idx arraycopyName ∈ tb) (hh0 : h a0 = some (oI m0 f)) (hh1 : h a1 = some (oI m1 g)) (hn0 : 0 ≤ n) (hn1 : n ≤ m0) (hn2 : n ≤ m1) (hd1 : 1 ≤ d) (hLl : L.length = y.2.2.1) (hwd : (st.map vcat).sum ≤ 8) (kk : J w n1 n2 (pc + 3) L st (up h a1 (oI m1 (cpF f g n)))) : J w n1 n2 pc L (vI n :: vI 0 :: vR a1 :: vI 0 :: vR a0 :: st) h := by
  obtain ⟨p, l, e, R, s, m, args, below, meth, c, Q, G, B, ρ0, h0⟩ := w
  obtain ⟨hx, hb, hml, hown, hts, hK, hlk, hBs, hnm, hfr, hlo, hce, hsl, hk, hret⟩ := hc
  intro ρ H locs ls hR hA hs hL hl hS
  have hs' : ∀ v ∈ st, Cl h v := fun v hv => hs v (List.mem_cons_of_mem _ (List.mem_cons_of_mem _ (List.mem_cons_of_mem _ (List.mem_cons_of_mem _ (List.mem_cons_of_mem _ hv)))))
  have hcat : ((st.map (val ρ)).map fun v => v.category).sum ≤ 8 := by
    rw [List.map_map]
    have e9 : ((fun v : Value => v.category) ∘ val ρ) = vcat := funext fun v => val_cat ρ v
    rw [e9]; exact hwd
  obtain ⟨⟨hl0, hc0⟩, -, -⟩ := hR.1 a0 _ hh0
  obtain ⟨⟨hl1, hc1⟩, -, hB1⟩ := hR.1 a1 _ hh1
  dsimp only at hl0 hc0 hl1 hc1
  have hN : (Int32.ofInt n).toNatClampNeg = n.toNat := i32_nat hn0 (by omega)
  have hZ : (Int32.ofInt 0).toNatClampNeg = 0 := rfl
  have hnI : (Int32.ofInt n).toInt = n := i32_toInt (show inI n from ⟨by omega, by omega⟩)
  have hzI : (Int32.ofInt 0).toInt = 0 := rfl
  have hng : ¬ Int32.ofInt n < 0 := fun q => by rw [i32_zero, i32_lt ⟨by omega, by omega⟩ ⟨by omega, by omega⟩] at q; omega
  have hnz : ¬ Int32.ofInt 0 < 0 := by decide
  obtain ⟨-, k0, hk0, cm0, hkk0⟩ := (hK.1.2 0 (G.2.2 0, .int) rfl).1 m0 (fun j => pv 0 (f j))
  intro T hT X
  obtain ⟨vm', X', stp⟩ := X.arraycopy hx hown (hts _ hw) (hts _ (tb_in 693 (by decide +kernel) rfl)) (hts _ (tb_in 692 (by decide +kernel) rfl)) (hts _ (tb_in 114 (by decide +kernel) rfl)) (src := ρ a0) (dst := ρ a1) (cs := arrV (G.2.2 0) m0 (fun j => pv 0 (f j))) (cd := arrV (G.2.2 0) m1 (fun j => pv 0 (g j))) (srcPos := Int32.ofInt 0) (destPos := Int32.ofInt 0) (n := Int32.ofInt n) (by rw [hT]; exact hc0) (by rw [hT]; exact hc1)
    (fun _ h => by cases h) (fun _ h => by cases h) (fun h => by cases h) (fun h => by cases h) hk0 hk0 hkk0 hkk0 rfl hnz hnz hng
    (by rw [hzI, hnI, arrV_size]; omega) (by rw [hzI, hnI, arrV_size]; omega)
    (fun vm₁ _ i hi => by
      rw [hN] at hi
      have e : (arrV (G.2.2 0) m0 (fun j => pv 0 (f j))).slots.getD ((Int32.ofInt 0).toNatClampNeg + i) .null = .int (Int32.ofInt (f i)) := by
        rw [hZ, Nat.zero_add, Array.getD_eq_getD_getElem?, arrV_read _ _ (by omega)]
        rfl
      rw [e]
      exact ⟨rfl, trivial⟩)
    (g := F0 m pc ls ((vI n :: vI 0 :: vR a1 :: vI 0 :: vR a0 :: st).map (val ρ))) rfl (by show ls.size = _; rw [hl.1, hLl, hml]) (rest := st.map (val ρ)) rfl (by rw [hb]; exact hd) (by omega) (by
      show 2 * 0 + _ + _ ≤ _
      have : nativeFrameWords "java/lang/System" "arraycopy" 5 + 11 ≤ 80 := by decide +kernel
      omega)
  have hcp : copied (arrV (G.2.2 0) m0 (fun j => pv 0 (f j))) (arrV (G.2.2 0) m1 (fun j => pv 0 (g j))) (Int32.ofInt 0) (Int32.ofInt 0) (Int32.ofInt n) = arrV (G.2.2 0) m1 (fun j => pv 0 (cpF f g n j)) := by
    refine (va_copied (fun z => Value.int z) (G.2.2 0) (G.2.2 0) (n0 := m0) (n1 := m1) (fun j => Int32.ofInt (f j)) (fun j => Int32.ofInt (g j)) (by rw [hZ, hN]; omega)).trans ?_
    refine arrV_congr fun j hj => ?_
    rw [hZ, hN]
    show Value.int (va_cpy _ _ 0 0 n.toNat j) = Value.int (Int32.ofInt (cpF f g n j))
    unfold va_cpy cpF
    by_cases q : j < n.toNat
    · rw [if_pos (by omega), if_pos (by omega)]
      simp
    · rw [if_neg (by omega), if_neg (by omega)]
  rw [hcp] at X' stp
  have hlt : ρ a1 < H.size := (Array.getElem?_eq_some_iff.mp hc1).1
  have oq : ∀ q : Nat, q ≠ ρ a1 → (H.setIfInBounds (ρ a1) (arrV (G.2.2 0) m1 (fun j => pv 0 (cpF f g n j))))[q]? = H[q]? := fun q hq => by simp [Array.getElem?_setIfInBounds, Ne.symm hq]
  have hR' : Rep G B ρ (up h a1 (oI m1 (cpF f g n))) (H.setIfInBounds (ρ a1) (arrV (G.2.2 0) m1 (fun j => pv 0 (cpF f g n j)))) := hR.put hh1 oq ⟨hl1, by simp [Array.getElem?_setIfInBounds, hlt]⟩ trivial
  have K := kk ρ _ (locs ++ ((arrV (G.2.2 0) m0 (fun j => pv 0 (f j))).stretch (Int32.ofInt 0).toNatClampNeg (Int32.ofInt n).toNatClampNeg).zipIdx.map fun q => ⟨ρ a1, (Int32.ofInt 0).toNatClampNeg + q.2⟩) ls hR' (hA.tr (up_ag hh1 ρ)) (fun v hv => (hs' v hv).w) (fun v hv => (hL v hv).w) hl
    ⟨by simp; exact hS.1, fun q g1 g2 => by
      rw [oq q (fun e => g2 (by rw [e]; exact hB1))]
      exact hS.2.1 q g1 g2, fun q hq => by
      rcases List.mem_append.mp hq with h | h
      · exact hS.2.2 q h
      · obtain ⟨z, -, hz⟩ := List.mem_map.mp h
        rw [← hz]
        exact hB1⟩
  obtain ⟨t, a1, b1⟩ := K ((T.setVm vm').setCell (ρ a1) (arrV (G.2.2 0) m1 (fun j => pv 0 (cpF f g n j)))) (by rw [← hT]; rfl) X'
  exact ⟨t, stp t a1, b1⟩
theorem Rep.newAt {G : GG} {B : Nat} {ρ : Nm → Nat} {h : AH} {H H1 : Heap} {n : Nm} {o : AO} {a : Nat} (hR : Rep G B ρ h H) (hn : h n = none) (hq : ∀ q, q < H.size → H1[q]? = H[q]?) (ha : ∀ x, h x ≠ none → ρ x ≠ a) (hB : B ≤ a) (hc : CellAt G (rnew ρ n a) H1 a o) (hcl : ClO (up h n o) o) : Rep G B (rnew ρ n a) (up h n o) H1 := by
  have ag := up_ag_new (o := o) hn ρ a
  refine ⟨fun x ox hx => ?_, fun x x' hx hx' e => ?_⟩
  · by_cases e : x = n
    · subst e
      rw [up_same] at hx
      cases hx
      rw [rnew_same]
      exact ⟨hc, hcl, hB⟩
    · rw [up_ne e] at hx
      obtain ⟨a1, a2, a3⟩ := hR.1 x ox hx
      rw [rnew_ne e]
      exact ⟨(a1.kept (hq _ a1.lt)).ag ag a2, a2.w, a3⟩
  · by_cases e1 : x = n
    · by_cases e2 : x' = n
      · rw [e1, e2]
      · rw [up_ne e2] at hx'
        rw [e1, rnew_same, rnew_ne e2] at e
        exact absurd e.symm (ha x' hx')
    · rw [up_ne e1] at hx
      by_cases e2 : x' = n
      · rw [e2, rnew_same, rnew_ne e1] at e
        exact absurd e (ha x hx)
      · rw [up_ne e2] at hx'
        rw [rnew_ne e1, rnew_ne e2] at e
        exact hR.2 x x' hx hx' e
theorem Rep.lt {G : GG} {B : Nat} {ρ : Nm → Nat} {h : AH} {H : Heap} (hR : Rep G B ρ h H) {x : Nm} (hx : h x ≠ none) : ρ x < H.size := by
  obtain ⟨ox, hox⟩ := Option.ne_none_iff_exists'.mp hx
  exact (hR.1 x ox hox).1.lt
def rwH (h : AH) : AH := up (up (up h (14, 0) (oI 40 (fun _ => 0))) (14, 1) (oI 40 (fun _ => 0))) (13, 0) (oA 5 2 (fun i => some (14, i)))
end Rules4
