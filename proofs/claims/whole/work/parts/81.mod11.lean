/-! ===== the reference as a whole ===== -/
def fuA (A : MAs) (i : Int) (g : Int → Int) : MAs := fun x => if x = i then g else A x
theorem MdS.pf {h h' : AH} {s s' : Int → Int} {A : MAs} (e : up h (70, 0) (oO 10 (mF s')) = h') (a : MdS h s A) : MdS h' s' A := by
  obtain ⟨g0, g1, g2, g3, g4, g5, g6, g7, g8, g9, g10, g11, g12, g13, g14, g15, g16, g17, g18, g19, g20, g21, g22, g23⟩ := a
  have q : ∀ z : Nm, z ≠ (70, 0) → h' z = h z := fun z hz => by rw [← e]; exact up_ne hz
  exact ⟨by rw [← e]; exact up_same _ _ _, (q _ (by simp)).trans g1, (q _ (by simp)).trans g2, (q _ (by simp)).trans g3, (q _ (by simp)).trans g4, (q _ (by simp)).trans g5, (q _ (by simp)).trans g6, (q _ (by simp)).trans g7, (q _ (by simp)).trans g8, (q _ (by simp)).trans g9, (q _ (by simp)).trans g10, (q _ (by simp)).trans g11, (q _ (by simp)).trans g12, (q _ (by simp)).trans g13, (q _ (by simp)).trans g14, (q _ (by simp)).trans g15, (q _ (by simp)).trans g16, (q _ (by simp)).trans g17, (q _ (by simp)).trans g18, (q _ (by simp)).trans g19, (q _ (by simp)).trans g20, (q _ (by simp)).trans g21, (q _ (by simp)).trans g22, (q _ (by simp)).trans g23⟩
theorem MdS.pa_1 {h h' : AH} {s : Int → Int} {A : MAs} {g : Int → Int} (e : up h (201, 0) (oI 240 g) = h') (a : MdS h s A) : MdS h' s (fuA A 1 g) := by
  obtain ⟨g0, g1, g2, g3, g4, g5, g6, g7, g8, g9, g10, g11, g12, g13, g14, g15, g16, g17, g18, g19, g20, g21, g22, g23⟩ := a
  have q : ∀ z : Nm, z ≠ (201, 0) → h' z = h z := fun z hz => by rw [← e]; exact up_ne hz
  exact ⟨(q _ (by simp)).trans g0, by rw [← e]; exact up_same _ _ _, (q _ (by simp)).trans g2, (q _ (by simp)).trans g3, (q _ (by simp)).trans g4, (q _ (by simp)).trans g5, (q _ (by simp)).trans g6, (q _ (by simp)).trans g7, (q _ (by simp)).trans g8, (q _ (by simp)).trans g9, (q _ (by simp)).trans g10, (q _ (by simp)).trans g11, (q _ (by simp)).trans g12, (q _ (by simp)).trans g13, (q _ (by simp)).trans g14, (q _ (by simp)).trans g15, (q _ (by simp)).trans g16, (q _ (by simp)).trans g17, (q _ (by simp)).trans g18, (q _ (by simp)).trans g19, (q _ (by simp)).trans g20, (q _ (by simp)).trans g21, (q _ (by simp)).trans g22, (q _ (by simp)).trans g23⟩
theorem MdS.pa_6 {h h' : AH} {s : Int → Int} {A : MAs} {g : Int → Int} (e : up h (206, 0) (oI 7 g) = h') (a : MdS h s A) : MdS h' s (fuA A 6 g) := by
  obtain ⟨g0, g1, g2, g3, g4, g5, g6, g7, g8, g9, g10, g11, g12, g13, g14, g15, g16, g17, g18, g19, g20, g21, g22, g23⟩ := a
  have q : ∀ z : Nm, z ≠ (206, 0) → h' z = h z := fun z hz => by rw [← e]; exact up_ne hz
  exact ⟨(q _ (by simp)).trans g0, (q _ (by simp)).trans g1, by rw [← e]; exact up_same _ _ _, (q _ (by simp)).trans g3, (q _ (by simp)).trans g4, (q _ (by simp)).trans g5, (q _ (by simp)).trans g6, (q _ (by simp)).trans g7, (q _ (by simp)).trans g8, (q _ (by simp)).trans g9, (q _ (by simp)).trans g10, (q _ (by simp)).trans g11, (q _ (by simp)).trans g12, (q _ (by simp)).trans g13, (q _ (by simp)).trans g14, (q _ (by simp)).trans g15, (q _ (by simp)).trans g16, (q _ (by simp)).trans g17, (q _ (by simp)).trans g18, (q _ (by simp)).trans g19, (q _ (by simp)).trans g20, (q _ (by simp)).trans g21, (q _ (by simp)).trans g22, (q _ (by simp)).trans g23⟩
theorem MdS.pa_7 {h h' : AH} {s : Int → Int} {A : MAs} {g : Int → Int} (e : up h (207, 0) (oI 1260 g) = h') (a : MdS h s A) : MdS h' s (fuA A 7 g) := by
  obtain ⟨g0, g1, g2, g3, g4, g5, g6, g7, g8, g9, g10, g11, g12, g13, g14, g15, g16, g17, g18, g19, g20, g21, g22, g23⟩ := a
  have q : ∀ z : Nm, z ≠ (207, 0) → h' z = h z := fun z hz => by rw [← e]; exact up_ne hz
  exact ⟨(q _ (by simp)).trans g0, (q _ (by simp)).trans g1, (q _ (by simp)).trans g2, by rw [← e]; exact up_same _ _ _, (q _ (by simp)).trans g4, (q _ (by simp)).trans g5, (q _ (by simp)).trans g6, (q _ (by simp)).trans g7, (q _ (by simp)).trans g8, (q _ (by simp)).trans g9, (q _ (by simp)).trans g10, (q _ (by simp)).trans g11, (q _ (by simp)).trans g12, (q _ (by simp)).trans g13, (q _ (by simp)).trans g14, (q _ (by simp)).trans g15, (q _ (by simp)).trans g16, (q _ (by simp)).trans g17, (q _ (by simp)).trans g18, (q _ (by simp)).trans g19, (q _ (by simp)).trans g20, (q _ (by simp)).trans g21, (q _ (by simp)).trans g22, (q _ (by simp)).trans g23⟩
theorem MdS.pa_8 {h h' : AH} {s : Int → Int} {A : MAs} {g : Int → Int} (e : up h (208, 0) (oI 7 g) = h') (a : MdS h s A) : MdS h' s (fuA A 8 g) := by
  obtain ⟨g0, g1, g2, g3, g4, g5, g6, g7, g8, g9, g10, g11, g12, g13, g14, g15, g16, g17, g18, g19, g20, g21, g22, g23⟩ := a
  have q : ∀ z : Nm, z ≠ (208, 0) → h' z = h z := fun z hz => by rw [← e]; exact up_ne hz
  exact ⟨(q _ (by simp)).trans g0, (q _ (by simp)).trans g1, (q _ (by simp)).trans g2, (q _ (by simp)).trans g3, by rw [← e]; exact up_same _ _ _, (q _ (by simp)).trans g5, (q _ (by simp)).trans g6, (q _ (by simp)).trans g7, (q _ (by simp)).trans g8, (q _ (by simp)).trans g9, (q _ (by simp)).trans g10, (q _ (by simp)).trans g11, (q _ (by simp)).trans g12, (q _ (by simp)).trans g13, (q _ (by simp)).trans g14, (q _ (by simp)).trans g15, (q _ (by simp)).trans g16, (q _ (by simp)).trans g17, (q _ (by simp)).trans g18, (q _ (by simp)).trans g19, (q _ (by simp)).trans g20, (q _ (by simp)).trans g21, (q _ (by simp)).trans g22, (q _ (by simp)).trans g23⟩
theorem MdS.pa_9 {h h' : AH} {s : Int → Int} {A : MAs} {g : Int → Int} (e : up h (209, 0) (oI 7 g) = h') (a : MdS h s A) : MdS h' s (fuA A 9 g) := by
  obtain ⟨g0, g1, g2, g3, g4, g5, g6, g7, g8, g9, g10, g11, g12, g13, g14, g15, g16, g17, g18, g19, g20, g21, g22, g23⟩ := a
  have q : ∀ z : Nm, z ≠ (209, 0) → h' z = h z := fun z hz => by rw [← e]; exact up_ne hz
  exact ⟨(q _ (by simp)).trans g0, (q _ (by simp)).trans g1, (q _ (by simp)).trans g2, (q _ (by simp)).trans g3, (q _ (by simp)).trans g4, by rw [← e]; exact up_same _ _ _, (q _ (by simp)).trans g6, (q _ (by simp)).trans g7, (q _ (by simp)).trans g8, (q _ (by simp)).trans g9, (q _ (by simp)).trans g10, (q _ (by simp)).trans g11, (q _ (by simp)).trans g12, (q _ (by simp)).trans g13, (q _ (by simp)).trans g14, (q _ (by simp)).trans g15, (q _ (by simp)).trans g16, (q _ (by simp)).trans g17, (q _ (by simp)).trans g18, (q _ (by simp)).trans g19, (q _ (by simp)).trans g20, (q _ (by simp)).trans g21, (q _ (by simp)).trans g22, (q _ (by simp)).trans g23⟩
theorem MdS.pa_10 {h h' : AH} {s : Int → Int} {A : MAs} {g : Int → Int} (e : up h (210, 0) (oI 112 g) = h') (a : MdS h s A) : MdS h' s (fuA A 10 g) := by
  obtain ⟨g0, g1, g2, g3, g4, g5, g6, g7, g8, g9, g10, g11, g12, g13, g14, g15, g16, g17, g18, g19, g20, g21, g22, g23⟩ := a
  have q : ∀ z : Nm, z ≠ (210, 0) → h' z = h z := fun z hz => by rw [← e]; exact up_ne hz
  exact ⟨(q _ (by simp)).trans g0, (q _ (by simp)).trans g1, (q _ (by simp)).trans g2, (q _ (by simp)).trans g3, (q _ (by simp)).trans g4, (q _ (by simp)).trans g5, by rw [← e]; exact up_same _ _ _, (q _ (by simp)).trans g7, (q _ (by simp)).trans g8, (q _ (by simp)).trans g9, (q _ (by simp)).trans g10, (q _ (by simp)).trans g11, (q _ (by simp)).trans g12, (q _ (by simp)).trans g13, (q _ (by simp)).trans g14, (q _ (by simp)).trans g15, (q _ (by simp)).trans g16, (q _ (by simp)).trans g17, (q _ (by simp)).trans g18, (q _ (by simp)).trans g19, (q _ (by simp)).trans g20, (q _ (by simp)).trans g21, (q _ (by simp)).trans g22, (q _ (by simp)).trans g23⟩
theorem MdS.pa_11 {h h' : AH} {s : Int → Int} {A : MAs} {g : Int → Int} (e : up h (211, 0) (oI 112 g) = h') (a : MdS h s A) : MdS h' s (fuA A 11 g) := by
  obtain ⟨g0, g1, g2, g3, g4, g5, g6, g7, g8, g9, g10, g11, g12, g13, g14, g15, g16, g17, g18, g19, g20, g21, g22, g23⟩ := a
  have q : ∀ z : Nm, z ≠ (211, 0) → h' z = h z := fun z hz => by rw [← e]; exact up_ne hz
  exact ⟨(q _ (by simp)).trans g0, (q _ (by simp)).trans g1, (q _ (by simp)).trans g2, (q _ (by simp)).trans g3, (q _ (by simp)).trans g4, (q _ (by simp)).trans g5, (q _ (by simp)).trans g6, by rw [← e]; exact up_same _ _ _, (q _ (by simp)).trans g8, (q _ (by simp)).trans g9, (q _ (by simp)).trans g10, (q _ (by simp)).trans g11, (q _ (by simp)).trans g12, (q _ (by simp)).trans g13, (q _ (by simp)).trans g14, (q _ (by simp)).trans g15, (q _ (by simp)).trans g16, (q _ (by simp)).trans g17, (q _ (by simp)).trans g18, (q _ (by simp)).trans g19, (q _ (by simp)).trans g20, (q _ (by simp)).trans g21, (q _ (by simp)).trans g22, (q _ (by simp)).trans g23⟩
theorem MdS.pa_12 {h h' : AH} {s : Int → Int} {A : MAs} {g : Int → Int} (e : up h (212, 0) (oI 28 g) = h') (a : MdS h s A) : MdS h' s (fuA A 12 g) := by
  obtain ⟨g0, g1, g2, g3, g4, g5, g6, g7, g8, g9, g10, g11, g12, g13, g14, g15, g16, g17, g18, g19, g20, g21, g22, g23⟩ := a
  have q : ∀ z : Nm, z ≠ (212, 0) → h' z = h z := fun z hz => by rw [← e]; exact up_ne hz
  exact ⟨(q _ (by simp)).trans g0, (q _ (by simp)).trans g1, (q _ (by simp)).trans g2, (q _ (by simp)).trans g3, (q _ (by simp)).trans g4, (q _ (by simp)).trans g5, (q _ (by simp)).trans g6, (q _ (by simp)).trans g7, by rw [← e]; exact up_same _ _ _, (q _ (by simp)).trans g9, (q _ (by simp)).trans g10, (q _ (by simp)).trans g11, (q _ (by simp)).trans g12, (q _ (by simp)).trans g13, (q _ (by simp)).trans g14, (q _ (by simp)).trans g15, (q _ (by simp)).trans g16, (q _ (by simp)).trans g17, (q _ (by simp)).trans g18, (q _ (by simp)).trans g19, (q _ (by simp)).trans g20, (q _ (by simp)).trans g21, (q _ (by simp)).trans g22, (q _ (by simp)).trans g23⟩
theorem MdS.pa_13 {h h' : AH} {s : Int → Int} {A : MAs} {g : Int → Int} (e : up h (213, 0) (oI 7 g) = h') (a : MdS h s A) : MdS h' s (fuA A 13 g) := by
  obtain ⟨g0, g1, g2, g3, g4, g5, g6, g7, g8, g9, g10, g11, g12, g13, g14, g15, g16, g17, g18, g19, g20, g21, g22, g23⟩ := a
  have q : ∀ z : Nm, z ≠ (213, 0) → h' z = h z := fun z hz => by rw [← e]; exact up_ne hz
  exact ⟨(q _ (by simp)).trans g0, (q _ (by simp)).trans g1, (q _ (by simp)).trans g2, (q _ (by simp)).trans g3, (q _ (by simp)).trans g4, (q _ (by simp)).trans g5, (q _ (by simp)).trans g6, (q _ (by simp)).trans g7, (q _ (by simp)).trans g8, by rw [← e]; exact up_same _ _ _, (q _ (by simp)).trans g10, (q _ (by simp)).trans g11, (q _ (by simp)).trans g12, (q _ (by simp)).trans g13, (q _ (by simp)).trans g14, (q _ (by simp)).trans g15, (q _ (by simp)).trans g16, (q _ (by simp)).trans g17, (q _ (by simp)).trans g18, (q _ (by simp)).trans g19, (q _ (by simp)).trans g20, (q _ (by simp)).trans g21, (q _ (by simp)).trans g22, (q _ (by simp)).trans g23⟩
theorem MdS.pa_14 {h h' : AH} {s : Int → Int} {A : MAs} {g : Int → Int} (e : up h (214, 0) (oI 7 g) = h') (a : MdS h s A) : MdS h' s (fuA A 14 g) := by
  obtain ⟨g0, g1, g2, g3, g4, g5, g6, g7, g8, g9, g10, g11, g12, g13, g14, g15, g16, g17, g18, g19, g20, g21, g22, g23⟩ := a
  have q : ∀ z : Nm, z ≠ (214, 0) → h' z = h z := fun z hz => by rw [← e]; exact up_ne hz
  exact ⟨(q _ (by simp)).trans g0, (q _ (by simp)).trans g1, (q _ (by simp)).trans g2, (q _ (by simp)).trans g3, (q _ (by simp)).trans g4, (q _ (by simp)).trans g5, (q _ (by simp)).trans g6, (q _ (by simp)).trans g7, (q _ (by simp)).trans g8, (q _ (by simp)).trans g9, by rw [← e]; exact up_same _ _ _, (q _ (by simp)).trans g11, (q _ (by simp)).trans g12, (q _ (by simp)).trans g13, (q _ (by simp)).trans g14, (q _ (by simp)).trans g15, (q _ (by simp)).trans g16, (q _ (by simp)).trans g17, (q _ (by simp)).trans g18, (q _ (by simp)).trans g19, (q _ (by simp)).trans g20, (q _ (by simp)).trans g21, (q _ (by simp)).trans g22, (q _ (by simp)).trans g23⟩
theorem MdS.pa_15 {h h' : AH} {s : Int → Int} {A : MAs} {g : Int → Int} (e : up h (215, 0) (oI 7 g) = h') (a : MdS h s A) : MdS h' s (fuA A 15 g) := by
  obtain ⟨g0, g1, g2, g3, g4, g5, g6, g7, g8, g9, g10, g11, g12, g13, g14, g15, g16, g17, g18, g19, g20, g21, g22, g23⟩ := a
  have q : ∀ z : Nm, z ≠ (215, 0) → h' z = h z := fun z hz => by rw [← e]; exact up_ne hz
  exact ⟨(q _ (by simp)).trans g0, (q _ (by simp)).trans g1, (q _ (by simp)).trans g2, (q _ (by simp)).trans g3, (q _ (by simp)).trans g4, (q _ (by simp)).trans g5, (q _ (by simp)).trans g6, (q _ (by simp)).trans g7, (q _ (by simp)).trans g8, (q _ (by simp)).trans g9, (q _ (by simp)).trans g10, by rw [← e]; exact up_same _ _ _, (q _ (by simp)).trans g12, (q _ (by simp)).trans g13, (q _ (by simp)).trans g14, (q _ (by simp)).trans g15, (q _ (by simp)).trans g16, (q _ (by simp)).trans g17, (q _ (by simp)).trans g18, (q _ (by simp)).trans g19, (q _ (by simp)).trans g20, (q _ (by simp)).trans g21, (q _ (by simp)).trans g22, (q _ (by simp)).trans g23⟩
theorem MdS.pa_16 {h h' : AH} {s : Int → Int} {A : MAs} {g : Int → Int} (e : up h (216, 0) (oI 6 g) = h') (a : MdS h s A) : MdS h' s (fuA A 16 g) := by
  obtain ⟨g0, g1, g2, g3, g4, g5, g6, g7, g8, g9, g10, g11, g12, g13, g14, g15, g16, g17, g18, g19, g20, g21, g22, g23⟩ := a
  have q : ∀ z : Nm, z ≠ (216, 0) → h' z = h z := fun z hz => by rw [← e]; exact up_ne hz
  exact ⟨(q _ (by simp)).trans g0, (q _ (by simp)).trans g1, (q _ (by simp)).trans g2, (q _ (by simp)).trans g3, (q _ (by simp)).trans g4, (q _ (by simp)).trans g5, (q _ (by simp)).trans g6, (q _ (by simp)).trans g7, (q _ (by simp)).trans g8, (q _ (by simp)).trans g9, (q _ (by simp)).trans g10, (q _ (by simp)).trans g11, by rw [← e]; exact up_same _ _ _, (q _ (by simp)).trans g13, (q _ (by simp)).trans g14, (q _ (by simp)).trans g15, (q _ (by simp)).trans g16, (q _ (by simp)).trans g17, (q _ (by simp)).trans g18, (q _ (by simp)).trans g19, (q _ (by simp)).trans g20, (q _ (by simp)).trans g21, (q _ (by simp)).trans g22, (q _ (by simp)).trans g23⟩
theorem MdS.pa_17 {h h' : AH} {s : Int → Int} {A : MAs} {g : Int → Int} (e : up h (217, 0) (oI 6 g) = h') (a : MdS h s A) : MdS h' s (fuA A 17 g) := by
  obtain ⟨g0, g1, g2, g3, g4, g5, g6, g7, g8, g9, g10, g11, g12, g13, g14, g15, g16, g17, g18, g19, g20, g21, g22, g23⟩ := a
  have q : ∀ z : Nm, z ≠ (217, 0) → h' z = h z := fun z hz => by rw [← e]; exact up_ne hz
  exact ⟨(q _ (by simp)).trans g0, (q _ (by simp)).trans g1, (q _ (by simp)).trans g2, (q _ (by simp)).trans g3, (q _ (by simp)).trans g4, (q _ (by simp)).trans g5, (q _ (by simp)).trans g6, (q _ (by simp)).trans g7, (q _ (by simp)).trans g8, (q _ (by simp)).trans g9, (q _ (by simp)).trans g10, (q _ (by simp)).trans g11, (q _ (by simp)).trans g12, by rw [← e]; exact up_same _ _ _, (q _ (by simp)).trans g14, (q _ (by simp)).trans g15, (q _ (by simp)).trans g16, (q _ (by simp)).trans g17, (q _ (by simp)).trans g18, (q _ (by simp)).trans g19, (q _ (by simp)).trans g20, (q _ (by simp)).trans g21, (q _ (by simp)).trans g22, (q _ (by simp)).trans g23⟩
theorem MdS.pa_18 {h h' : AH} {s : Int → Int} {A : MAs} {g : Int → Int} (e : up h (218, 0) (oI 984 g) = h') (a : MdS h s A) : MdS h' s (fuA A 18 g) := by
  obtain ⟨g0, g1, g2, g3, g4, g5, g6, g7, g8, g9, g10, g11, g12, g13, g14, g15, g16, g17, g18, g19, g20, g21, g22, g23⟩ := a
  have q : ∀ z : Nm, z ≠ (218, 0) → h' z = h z := fun z hz => by rw [← e]; exact up_ne hz
  exact ⟨(q _ (by simp)).trans g0, (q _ (by simp)).trans g1, (q _ (by simp)).trans g2, (q _ (by simp)).trans g3, (q _ (by simp)).trans g4, (q _ (by simp)).trans g5, (q _ (by simp)).trans g6, (q _ (by simp)).trans g7, (q _ (by simp)).trans g8, (q _ (by simp)).trans g9, (q _ (by simp)).trans g10, (q _ (by simp)).trans g11, (q _ (by simp)).trans g12, (q _ (by simp)).trans g13, by rw [← e]; exact up_same _ _ _, (q _ (by simp)).trans g15, (q _ (by simp)).trans g16, (q _ (by simp)).trans g17, (q _ (by simp)).trans g18, (q _ (by simp)).trans g19, (q _ (by simp)).trans g20, (q _ (by simp)).trans g21, (q _ (by simp)).trans g22, (q _ (by simp)).trans g23⟩
theorem MdS.pa_19 {h h' : AH} {s : Int → Int} {A : MAs} {g : Int → Int} (e : up h (219, 0) (oI 6 g) = h') (a : MdS h s A) : MdS h' s (fuA A 19 g) := by
  obtain ⟨g0, g1, g2, g3, g4, g5, g6, g7, g8, g9, g10, g11, g12, g13, g14, g15, g16, g17, g18, g19, g20, g21, g22, g23⟩ := a
  have q : ∀ z : Nm, z ≠ (219, 0) → h' z = h z := fun z hz => by rw [← e]; exact up_ne hz
  exact ⟨(q _ (by simp)).trans g0, (q _ (by simp)).trans g1, (q _ (by simp)).trans g2, (q _ (by simp)).trans g3, (q _ (by simp)).trans g4, (q _ (by simp)).trans g5, (q _ (by simp)).trans g6, (q _ (by simp)).trans g7, (q _ (by simp)).trans g8, (q _ (by simp)).trans g9, (q _ (by simp)).trans g10, (q _ (by simp)).trans g11, (q _ (by simp)).trans g12, (q _ (by simp)).trans g13, (q _ (by simp)).trans g14, by rw [← e]; exact up_same _ _ _, (q _ (by simp)).trans g16, (q _ (by simp)).trans g17, (q _ (by simp)).trans g18, (q _ (by simp)).trans g19, (q _ (by simp)).trans g20, (q _ (by simp)).trans g21, (q _ (by simp)).trans g22, (q _ (by simp)).trans g23⟩
theorem MdS.pa_20 {h h' : AH} {s : Int → Int} {A : MAs} {g : Int → Int} (e : up h (220, 0) (oI 6 g) = h') (a : MdS h s A) : MdS h' s (fuA A 20 g) := by
  obtain ⟨g0, g1, g2, g3, g4, g5, g6, g7, g8, g9, g10, g11, g12, g13, g14, g15, g16, g17, g18, g19, g20, g21, g22, g23⟩ := a
  have q : ∀ z : Nm, z ≠ (220, 0) → h' z = h z := fun z hz => by rw [← e]; exact up_ne hz
  exact ⟨(q _ (by simp)).trans g0, (q _ (by simp)).trans g1, (q _ (by simp)).trans g2, (q _ (by simp)).trans g3, (q _ (by simp)).trans g4, (q _ (by simp)).trans g5, (q _ (by simp)).trans g6, (q _ (by simp)).trans g7, (q _ (by simp)).trans g8, (q _ (by simp)).trans g9, (q _ (by simp)).trans g10, (q _ (by simp)).trans g11, (q _ (by simp)).trans g12, (q _ (by simp)).trans g13, (q _ (by simp)).trans g14, (q _ (by simp)).trans g15, by rw [← e]; exact up_same _ _ _, (q _ (by simp)).trans g17, (q _ (by simp)).trans g18, (q _ (by simp)).trans g19, (q _ (by simp)).trans g20, (q _ (by simp)).trans g21, (q _ (by simp)).trans g22, (q _ (by simp)).trans g23⟩
theorem MdS.pa_21 {h h' : AH} {s : Int → Int} {A : MAs} {g : Int → Int} (e : up h (221, 0) (oI 6 g) = h') (a : MdS h s A) : MdS h' s (fuA A 21 g) := by
  obtain ⟨g0, g1, g2, g3, g4, g5, g6, g7, g8, g9, g10, g11, g12, g13, g14, g15, g16, g17, g18, g19, g20, g21, g22, g23⟩ := a
  have q : ∀ z : Nm, z ≠ (221, 0) → h' z = h z := fun z hz => by rw [← e]; exact up_ne hz
  exact ⟨(q _ (by simp)).trans g0, (q _ (by simp)).trans g1, (q _ (by simp)).trans g2, (q _ (by simp)).trans g3, (q _ (by simp)).trans g4, (q _ (by simp)).trans g5, (q _ (by simp)).trans g6, (q _ (by simp)).trans g7, (q _ (by simp)).trans g8, (q _ (by simp)).trans g9, (q _ (by simp)).trans g10, (q _ (by simp)).trans g11, (q _ (by simp)).trans g12, (q _ (by simp)).trans g13, (q _ (by simp)).trans g14, (q _ (by simp)).trans g15, (q _ (by simp)).trans g16, by rw [← e]; exact up_same _ _ _, (q _ (by simp)).trans g18, (q _ (by simp)).trans g19, (q _ (by simp)).trans g20, (q _ (by simp)).trans g21, (q _ (by simp)).trans g22, (q _ (by simp)).trans g23⟩
theorem MdS.pa_23 {h h' : AH} {s : Int → Int} {A : MAs} {g : Int → Int} (e : up h (223, 0) (oI 2800 g) = h') (a : MdS h s A) : MdS h' s (fuA A 23 g) := by
  obtain ⟨g0, g1, g2, g3, g4, g5, g6, g7, g8, g9, g10, g11, g12, g13, g14, g15, g16, g17, g18, g19, g20, g21, g22, g23⟩ := a
  have q : ∀ z : Nm, z ≠ (223, 0) → h' z = h z := fun z hz => by rw [← e]; exact up_ne hz
  exact ⟨(q _ (by simp)).trans g0, (q _ (by simp)).trans g1, (q _ (by simp)).trans g2, (q _ (by simp)).trans g3, (q _ (by simp)).trans g4, (q _ (by simp)).trans g5, (q _ (by simp)).trans g6, (q _ (by simp)).trans g7, (q _ (by simp)).trans g8, (q _ (by simp)).trans g9, (q _ (by simp)).trans g10, (q _ (by simp)).trans g11, (q _ (by simp)).trans g12, (q _ (by simp)).trans g13, (q _ (by simp)).trans g14, (q _ (by simp)).trans g15, (q _ (by simp)).trans g16, (q _ (by simp)).trans g17, by rw [← e]; exact up_same _ _ _, (q _ (by simp)).trans g19, (q _ (by simp)).trans g20, (q _ (by simp)).trans g21, (q _ (by simp)).trans g22, (q _ (by simp)).trans g23⟩
theorem MdS.pa_24 {h h' : AH} {s : Int → Int} {A : MAs} {g : Int → Int} (e : up h (224, 0) (oI 7 g) = h') (a : MdS h s A) : MdS h' s (fuA A 24 g) := by
  obtain ⟨g0, g1, g2, g3, g4, g5, g6, g7, g8, g9, g10, g11, g12, g13, g14, g15, g16, g17, g18, g19, g20, g21, g22, g23⟩ := a
  have q : ∀ z : Nm, z ≠ (224, 0) → h' z = h z := fun z hz => by rw [← e]; exact up_ne hz
  exact ⟨(q _ (by simp)).trans g0, (q _ (by simp)).trans g1, (q _ (by simp)).trans g2, (q _ (by simp)).trans g3, (q _ (by simp)).trans g4, (q _ (by simp)).trans g5, (q _ (by simp)).trans g6, (q _ (by simp)).trans g7, (q _ (by simp)).trans g8, (q _ (by simp)).trans g9, (q _ (by simp)).trans g10, (q _ (by simp)).trans g11, (q _ (by simp)).trans g12, (q _ (by simp)).trans g13, (q _ (by simp)).trans g14, (q _ (by simp)).trans g15, (q _ (by simp)).trans g16, (q _ (by simp)).trans g17, (q _ (by simp)).trans g18, by rw [← e]; exact up_same _ _ _, (q _ (by simp)).trans g20, (q _ (by simp)).trans g21, (q _ (by simp)).trans g22, (q _ (by simp)).trans g23⟩
theorem MdS.pa_25 {h h' : AH} {s : Int → Int} {A : MAs} {g : Int → Int} (e : up h (225, 0) (oI 448 g) = h') (a : MdS h s A) : MdS h' s (fuA A 25 g) := by
  obtain ⟨g0, g1, g2, g3, g4, g5, g6, g7, g8, g9, g10, g11, g12, g13, g14, g15, g16, g17, g18, g19, g20, g21, g22, g23⟩ := a
  have q : ∀ z : Nm, z ≠ (225, 0) → h' z = h z := fun z hz => by rw [← e]; exact up_ne hz
  exact ⟨(q _ (by simp)).trans g0, (q _ (by simp)).trans g1, (q _ (by simp)).trans g2, (q _ (by simp)).trans g3, (q _ (by simp)).trans g4, (q _ (by simp)).trans g5, (q _ (by simp)).trans g6, (q _ (by simp)).trans g7, (q _ (by simp)).trans g8, (q _ (by simp)).trans g9, (q _ (by simp)).trans g10, (q _ (by simp)).trans g11, (q _ (by simp)).trans g12, (q _ (by simp)).trans g13, (q _ (by simp)).trans g14, (q _ (by simp)).trans g15, (q _ (by simp)).trans g16, (q _ (by simp)).trans g17, (q _ (by simp)).trans g18, (q _ (by simp)).trans g19, by rw [← e]; exact up_same _ _ _, (q _ (by simp)).trans g21, (q _ (by simp)).trans g22, (q _ (by simp)).trans g23⟩
theorem MdS.pa_26 {h h' : AH} {s : Int → Int} {A : MAs} {g : Int → Int} (e : up h (226, 0) (oI 448 g) = h') (a : MdS h s A) : MdS h' s (fuA A 26 g) := by
  obtain ⟨g0, g1, g2, g3, g4, g5, g6, g7, g8, g9, g10, g11, g12, g13, g14, g15, g16, g17, g18, g19, g20, g21, g22, g23⟩ := a
  have q : ∀ z : Nm, z ≠ (226, 0) → h' z = h z := fun z hz => by rw [← e]; exact up_ne hz
  exact ⟨(q _ (by simp)).trans g0, (q _ (by simp)).trans g1, (q _ (by simp)).trans g2, (q _ (by simp)).trans g3, (q _ (by simp)).trans g4, (q _ (by simp)).trans g5, (q _ (by simp)).trans g6, (q _ (by simp)).trans g7, (q _ (by simp)).trans g8, (q _ (by simp)).trans g9, (q _ (by simp)).trans g10, (q _ (by simp)).trans g11, (q _ (by simp)).trans g12, (q _ (by simp)).trans g13, (q _ (by simp)).trans g14, (q _ (by simp)).trans g15, (q _ (by simp)).trans g16, (q _ (by simp)).trans g17, (q _ (by simp)).trans g18, (q _ (by simp)).trans g19, (q _ (by simp)).trans g20, by rw [← e]; exact up_same _ _ _, (q _ (by simp)).trans g22, (q _ (by simp)).trans g23⟩
theorem MdS.pa_41 {h h' : AH} {s : Int → Int} {A : MAs} {g : Int → Int} (e : up h (241, 0) (oI 80 g) = h') (a : MdS h s A) : MdS h' s (fuA A 41 g) := by
  obtain ⟨g0, g1, g2, g3, g4, g5, g6, g7, g8, g9, g10, g11, g12, g13, g14, g15, g16, g17, g18, g19, g20, g21, g22, g23⟩ := a
  have q : ∀ z : Nm, z ≠ (241, 0) → h' z = h z := fun z hz => by rw [← e]; exact up_ne hz
  exact ⟨(q _ (by simp)).trans g0, (q _ (by simp)).trans g1, (q _ (by simp)).trans g2, (q _ (by simp)).trans g3, (q _ (by simp)).trans g4, (q _ (by simp)).trans g5, (q _ (by simp)).trans g6, (q _ (by simp)).trans g7, (q _ (by simp)).trans g8, (q _ (by simp)).trans g9, (q _ (by simp)).trans g10, (q _ (by simp)).trans g11, (q _ (by simp)).trans g12, (q _ (by simp)).trans g13, (q _ (by simp)).trans g14, (q _ (by simp)).trans g15, (q _ (by simp)).trans g16, (q _ (by simp)).trans g17, (q _ (by simp)).trans g18, (q _ (by simp)).trans g19, (q _ (by simp)).trans g20, (q _ (by simp)).trans g21, by rw [← e]; exact up_same _ _ _, (q _ (by simp)).trans g23⟩
theorem MdS.pa_42 {h h' : AH} {s : Int → Int} {A : MAs} {g : Int → Int} (e : up h (242, 0) (oI 2 g) = h') (a : MdS h s A) : MdS h' s (fuA A 42 g) := by
  obtain ⟨g0, g1, g2, g3, g4, g5, g6, g7, g8, g9, g10, g11, g12, g13, g14, g15, g16, g17, g18, g19, g20, g21, g22, g23⟩ := a
  have q : ∀ z : Nm, z ≠ (242, 0) → h' z = h z := fun z hz => by rw [← e]; exact up_ne hz
  exact ⟨(q _ (by simp)).trans g0, (q _ (by simp)).trans g1, (q _ (by simp)).trans g2, (q _ (by simp)).trans g3, (q _ (by simp)).trans g4, (q _ (by simp)).trans g5, (q _ (by simp)).trans g6, (q _ (by simp)).trans g7, (q _ (by simp)).trans g8, (q _ (by simp)).trans g9, (q _ (by simp)).trans g10, (q _ (by simp)).trans g11, (q _ (by simp)).trans g12, (q _ (by simp)).trans g13, (q _ (by simp)).trans g14, (q _ (by simp)).trans g15, (q _ (by simp)).trans g16, (q _ (by simp)).trans g17, (q _ (by simp)).trans g18, (q _ (by simp)).trans g19, (q _ (by simp)).trans g20, (q _ (by simp)).trans g21, (q _ (by simp)).trans g22, by rw [← e]; exact up_same _ _ _⟩
def MoR (s : Int → Int) (A : MAs) (S : BaS) (th : Int) : Prop := s 0 = th ∧ s 2 = bN S ∧ s 22 = bLc S ∧ s 27 = bRc S ∧ s 44 = bTo S ∧ s 45 = bSe S ∧ s 46 = bSp S ∧ (∀ i : Int, 0 ≤ i → i < bN S → A 1 i = bB S i) ∧ (∀ l : Int, 0 ≤ l → l < bLc S → MlD A l (bD S l) (bE S l)) ∧ (∀ r : Int, 0 ≤ r → r < bRc S → MrD A r (bR S r) ∧ ClsG (bR S r)) ∧
  (∀ r : Int, 0 ≤ r → r ≤ 1 → A 42 r = bRl S r ∧ ∀ x : Int, 0 ≤ x → x < 40 → A 41 (40 * r + x) = bRw S r x) ∧
  ∀ l : Int, bLc S ≤ l → l < 6 → A 16 l = 20 ∧ A 17 l = -1 ∧ A 19 l = 0 ∧ A 20 l = 0 ∧ A 21 l = 0 ∧ ∀ i : Int, 0 ≤ i → i < 164 → A 18 (164 * l + i) = 0
def RnA (f : Int → Int) (S : BaS) : Prop := ∀ t i x : Int, 0 ≤ t → t < bTo S → 0 ≤ i → i < bSe S → 0 ≤ x → x < 7 → f (7 * (40 * t + i) + x) = bCe S (7 * (40 * t + i) + x)
def MoX (h : AH) (S : BaS) : Prop := (∃ f, h (239, 0) = some (oL 41 f)) ∧ (∃ f, h (240, 0) = some (oL 41 f)) ∧ (∃ f, h (243, 0) = some (oI 560 f) ∧ RnA f S) ∧ ∃ f, h (247, 0) = some (oI 280 f)
def ModAt (h : AH) (S : BaS) (th : Int) : Prop := ∃ (s : Int → Int) (A : MAs), MdS h s A ∧ MoR s A S th ∧ MoB h ∧ MoX h S ∧ BOK S
abbrev isMo : Nm → Prop := fun z => z.1 = 70 ∨ 200 ≤ z.1
abbrev isTb : Nm → Prop := fun z => z = (70, 0) ∨ (230 ≤ z.1 ∧ z.1 ≤ 236)
theorem isTb_mo {z : Nm} (h : isTb z) : isMo z := by
  rcases h with h | h
  · rw [h]; exact Or.inl rfl
  · exact Or.inr (by omega)
theorem MoX.fr {h h' : AH} {S : BaS} (F : Fr isTb h h') (a : MoX h S) : MoX h' S := by
  obtain ⟨⟨f1, a1⟩, ⟨f2, a2⟩, ⟨f3, a3, b3⟩, f4, a4⟩ := a
  exact ⟨⟨f1, (F _ (by decide)).trans a1⟩, ⟨f2, (F _ (by decide)).trans a2⟩, ⟨f3, (F _ (by decide)).trans a3, b3⟩, f4, (F _ (by decide)).trans a4⟩
theorem ru_of {k : WC} {s : Int → Int} {A : MAs} {S : BaS} {th l : Int} (hR : MoR s A S th) (hK : BOK S) (hl : lnV S l) : RuC k s A (bE S l) (ruC S l) := by
  obtain ⟨g0, g1, g2, g3, g4, g5, g6, g7, g8, g9, g10, g11⟩ := id hR
  obtain ⟨k1, ⟨k2, k3⟩, ⟨k4, k5⟩, k6, k7, k8, k9⟩ := id hK
  obtain ⟨hD, hE, hrn, hyo⟩ := k6 l hl.1 hl.2
  by_cases e : yRn (bE S l) = -1
  · exact Or.inl ⟨e, by unfold ruC ruQ; rw [if_pos e]⟩
  · have hy := hE.2.2.2.2.2.2.2.1
    obtain ⟨m1, m2⟩ := g9 (yRn (bE S l)) (by omega) hrn
    refine Or.inr ⟨e, _, by unfold ruC ruQ; rw [if_neg e], fun j h0 h1 => ?_, fun d h a t n p r pf hd hS zP ha ht hn hp hr => ?_⟩
    · have := (k7 (yRn (bE S l)) (by omega) hrn).2
      show inI ((flC (bR S (yRn (bE S l)))).getD j.toNat 0)
      rw [List.getD_eq_getElem?_getD, List.getElem?_eq_getElem (show j.toNat < _ by dsimp only at h1; omega)]
      exact this _ (List.getElem_mem _)
    · have h2 := ev_X11_worthOf (k := k) (d := d) (by omega) (by omega) (by omega) ha ht hn hp hr m1 m2 hS zP
      dsimp only
      rw [woS_wv m2 ha ht hn hp hr]
      exact h2
set_option maxRecDepth 100000 in
set_option maxHeartbeats 4000000 in
theorem ev_X11_isLand {k : WC} {d : Nat} {h : AH} {S : BaS} {s : Int → Int} {A : MAs} {th : Int} {l : Int} (hd : 2 ≤ d) (hS : MdS h s A) (hR : MoR s A S th) (hK : BOK S) (hl : inI l) : Ev k d mdX11_isLand h [vR (70, 0), vI l] 0 0 (pr (vI (if lnV S l then 1 else 0)) h) := by
  obtain ⟨m0, m2, m22, m27, m44, m45, m46, mTp, mLd, mRu, mRw, mFr⟩ := id hR
  obtain ⟨⟨kTa, kTb⟩, ⟨kL0, kL1⟩, ⟨kR0, kR1⟩, kLd, kRu, kRw, ⟨kT0, kT1⟩, kS0, kS1⟩ := id hK
  refine Ev.mk (by decide +kernel) [_, _] rfl (Nat.le_of_ble_eq_true rfl) (fun w hc he => ?_)
  refine j_iload_n hc dX11_isLand_0 rfl ?_
  refine j_iconst hc dX11_isLand_1 ?_
  refine j_aload_n hc dX11_isLand_2 rfl ?_
  refine j_get hc dX11_isLand_3 fX11_224 hS.1 rfl ?_
  rw [m22]
  refine j_iconst hc dX11_isLand_6 ?_
  refine j_isub hc dX11_isLand_7 ?_
  refine j_callS (d' := d - 1) hc dX11_isLand_8 sX11_145 (ev_X11_in (by omega) hl ⟨by omega, by omega⟩ ⟨by omega, by omega⟩) rfl (by omega) (by omega) (by omega) rfl rfl (Nat.le_of_ble_eq_true rfl) (ret1 ?_)
  exact j_zret hc he dX11_isLand_11 rfl (by omega) (by omega) (by split <;> simp) ⟨vI_eq (by split <;> split <;> omega), rfl⟩
set_option maxRecDepth 100000 in
set_option maxHeartbeats 4000000 in
theorem ev_X11_isSeason {k : WC} {d : Nat} {h : AH} {S : BaS} {s : Int → Int} {A : MAs} {th : Int} {l q : Int} (hd : 3 ≤ d) (hS : MdS h s A) (hR : MoR s A S th) (hK : BOK S) (hl : inI l) (hq : inI q) : Ev k d mdX11_isSeason h [vR (70, 0), vI l, vI q] 0 0 (pr (vI (if lnV S l ∧ 0 ≤ q ∧ q < lSe (bD S l) then 1 else 0)) h) := by
  obtain ⟨m0, m2, m22, m27, m44, m45, m46, mTp, mLd, mRu, mRw, mFr⟩ := id hR
  obtain ⟨⟨kTa, kTb⟩, ⟨kL0, kL1⟩, ⟨kR0, kR1⟩, kLd, kRu, kRw, ⟨kT0, kT1⟩, kS0, kS1⟩ := id hK
  refine Ev.mk (by decide +kernel) [_, _, _] rfl (Nat.le_of_ble_eq_true rfl) (fun w hc he => ?_)
  refine j_aload_n hc dX11_isSeason_0 rfl ?_
  refine j_iload_n hc dX11_isSeason_1 rfl ?_
  refine j_callV (d' := d - 1) hc dX11_isSeason_2 vX11_257 hS.1 (ev_X11_isLand (by omega) hS hR hK hl) rfl (by omega) (by omega) (by omega) rfl rfl (Nat.le_of_ble_eq_true rfl) (ret1 ?_)
  refine j_if_eq (b := 0) (tgt := 28) hc dX11_isSeason_5 (by decide) (by split <;> exact ⟨by omega, by omega⟩) (fun zc1 => ?_) (fun zc1 => ?_)
  · have zw := one_neg zc1
    refine j_iconst hc dX11_isSeason_28 ?_
    exact j_zret hc he dX11_isSeason_29 rfl (by omega) (by omega) (by first | exact Or.inl rfl | exact Or.inr rfl) ⟨vI_eq (by first | rw [if_pos (by omega)] | rw [if_neg (by omega)]), rfl⟩
  · have zw := one_pos zc1
    obtain ⟨zD, -, -, -⟩ := kLd l zw.1 zw.2
    have zs1 := zD.1
    have zs2 := zD.2.1
    have zse := (mLd l zw.1 zw.2).2.1
    refine j_iload_n hc dX11_isSeason_8 rfl ?_
    refine j_iconst hc dX11_isSeason_9 ?_
    refine j_aload_n hc dX11_isSeason_10 rfl ?_
    refine j_get hc dX11_isSeason_11 fX11_13 hS.1 rfl ?_
    refine j_iload_n hc dX11_isSeason_14 rfl ?_
    refine j_iald hc dX11_isSeason_15 hS.2.2.1 (by omega) (by omega) ?_
    rw [zse]
    refine j_iconst hc dX11_isSeason_16 ?_
    refine j_isub hc dX11_isSeason_17 ?_
    refine j_callS (d' := d - 1) hc dX11_isSeason_18 sX11_145 (ev_X11_in (by omega) hq ⟨by omega, by omega⟩ ⟨by omega, by omega⟩) rfl (by omega) (by omega) (by omega) rfl rfl (Nat.le_of_ble_eq_true rfl) (ret1 ?_)
    refine j_if_eq (b := 0) (tgt := 28) hc dX11_isSeason_21 (by decide) (by split <;> exact ⟨by omega, by omega⟩) (fun zc2 => ?_) (fun zc2 => ?_)
    · have zw2 := one_neg zc2
      refine j_iconst hc dX11_isSeason_28 ?_
      exact j_zret hc he dX11_isSeason_29 rfl (by omega) (by omega) (by first | exact Or.inl rfl | exact Or.inr rfl) ⟨vI_eq (by first | rw [if_pos (by omega)] | rw [if_neg (by omega)]), rfl⟩
    · have zw2 := one_pos zc2
      refine j_iconst hc dX11_isSeason_24 ?_
      refine j_goto (tgt := 29) hc dX11_isSeason_25 (by decide) ?_
      exact j_zret hc he dX11_isSeason_29 rfl (by omega) (by omega) (by first | exact Or.inl rfl | exact Or.inr rfl) ⟨vI_eq (by first | rw [if_pos (by omega)] | rw [if_neg (by omega)]), rfl⟩
set_option maxRecDepth 100000 in
set_option maxHeartbeats 4000000 in
theorem ev_X11_isState {k : WC} {d : Nat} {h : AH} {S : BaS} {s : Int → Int} {A : MAs} {th : Int} {l n q a : Int} (hd : 4 ≤ d) (hS : MdS h s A) (hR : MoR s A S th) (hK : BOK S) (hl : inI l) (hn : inI n) (hq : inI q) (ha : inI a) : Ev k d mdX11_isState h [vR (70, 0), vI l, vI n, vI q, vI a] 0 0 (pr (vI (if laV S l n q a then 1 else 0)) h) := by
  obtain ⟨m0, m2, m22, m27, m44, m45, m46, mTp, mLd, mRu, mRw, mFr⟩ := id hR
  obtain ⟨⟨kTa, kTb⟩, ⟨kL0, kL1⟩, ⟨kR0, kR1⟩, kLd, kRu, kRw, ⟨kT0, kT1⟩, kS0, kS1⟩ := id hK
  refine Ev.mk (by decide +kernel) [_, _, _, _, _] rfl (Nat.le_of_ble_eq_true rfl) (fun w hc he => ?_)
  refine j_aload_n hc dX11_isState_0 rfl ?_
  refine j_iload_n hc dX11_isState_1 rfl ?_
  refine j_iload_n hc dX11_isState_2 rfl ?_
  refine j_callV (d' := d - 1) hc dX11_isState_3 vX11_265 hS.1 (ev_X11_isSeason (by omega) hS hR hK hl hq) rfl (by omega) (by omega) (by omega) rfl rfl (Nat.le_of_ble_eq_true rfl) (ret1 ?_)
  refine j_if_eq (b := 0) (tgt := 34) hc dX11_isState_6 (by decide) (by split <;> exact ⟨by omega, by omega⟩) (fun zc1 => ?_) (fun zc1 => ?_)
  · have zw := one_neg zc1
    refine j_iconst hc dX11_isState_34 ?_
    exact j_zret hc he dX11_isState_35 rfl (by omega) (by omega) (by first | exact Or.inl rfl | exact Or.inr rfl) ⟨vI_eq (by first | rw [if_pos (by omega)] | rw [if_neg (by omega)]), rfl⟩
  · have zw := one_pos zc1
    refine j_iload_n hc dX11_isState_9 rfl ?_
    refine j_iconst hc dX11_isState_10 ?_
    refine j_bipush hc dX11_isState_11 (by decide) ?_
    refine j_callS (d' := d - 1) hc dX11_isState_13 sX11_145 (ev_X11_in (by omega) hn ⟨by omega, by omega⟩ ⟨by omega, by omega⟩) rfl (by omega) (by omega) (by omega) rfl rfl (Nat.le_of_ble_eq_true rfl) (ret1 ?_)
    refine j_if_eq (b := 0) (tgt := 34) hc dX11_isState_16 (by decide) (by split <;> exact ⟨by omega, by omega⟩) (fun zc2 => ?_) (fun zc2 => ?_)
    · have zw2 := one_neg zc2
      refine j_iconst hc dX11_isState_34 ?_
      exact j_zret hc he dX11_isState_35 rfl (by omega) (by omega) (by first | exact Or.inl rfl | exact Or.inr rfl) ⟨vI_eq (by first | rw [if_pos (by omega)] | rw [if_neg (by omega)]), rfl⟩
    · have zw2 := one_pos zc2
      refine j_iload hc dX11_isState_19 rfl ?_
      refine j_iconst hc dX11_isState_21 ?_
      refine j_bipush hc dX11_isState_22 (by decide) ?_
      refine j_callS (d' := d - 1) hc dX11_isState_24 sX11_145 (ev_X11_in (by omega) ha ⟨by omega, by omega⟩ ⟨by omega, by omega⟩) rfl (by omega) (by omega) (by omega) rfl rfl (Nat.le_of_ble_eq_true rfl) (ret1 ?_)
      refine j_if_eq (b := 0) (tgt := 34) hc dX11_isState_27 (by decide) (by split <;> exact ⟨by omega, by omega⟩) (fun zc3 => ?_) (fun zc3 => ?_)
      · have zw3 := one_neg zc3
        refine j_iconst hc dX11_isState_34 ?_
        exact j_zret hc he dX11_isState_35 rfl (by omega) (by omega) (by first | exact Or.inl rfl | exact Or.inr rfl) ⟨vI_eq (by first | rw [if_pos (by omega)] | rw [if_neg (by omega)]), rfl⟩
      · have zw3 := one_pos zc3
        refine j_iconst hc dX11_isState_30 ?_
        refine j_goto (tgt := 35) hc dX11_isState_31 (by decide) ?_
        exact j_zret hc he dX11_isState_35 rfl (by omega) (by omega) (by first | exact Or.inl rfl | exact Or.inr rfl) ⟨vI_eq (by first | rw [if_pos (by omega)] | rw [if_neg (by omega)]), rfl⟩
set_option maxRecDepth 100000 in
set_option maxHeartbeats 4000000 in
theorem ev_X11_isKind {k : WC} {d : Nat} {h : AH} {a : Int} (hd : 2 ≤ d) (ha : inI a) : Ev k d mdX11_isKind h [vI a] 0 0 (pr (vI (if 0 ≤ a ∧ a ≤ 4 then 1 else 0)) h) := by
  refine Ev.mk (by decide +kernel) [_] rfl (Nat.le_of_ble_eq_true rfl) (fun w hc he => ?_)
  refine j_iload_n hc dX11_isKind_0 rfl ?_
  refine j_iconst hc dX11_isKind_1 ?_
  refine j_iconst hc dX11_isKind_2 ?_
  refine j_callS (d' := d - 1) hc dX11_isKind_3 sX11_145 (ev_X11_in (by omega) ha ⟨by omega, by omega⟩ ⟨by omega, by omega⟩) rfl (by omega) (by omega) (by omega) rfl rfl (Nat.le_of_ble_eq_true rfl) (ret1 ?_)
  exact j_zret hc he dX11_isKind_6 rfl (by omega) (by omega) (by split <;> simp) ⟨vI_eq (rfl), rfl⟩
set_option maxRecDepth 100000 in
set_option maxHeartbeats 4000000 in
theorem ev_X11_mayRun {k : WC} {d : Nat} {h : AH} {S : BaS} {s : Int → Int} {A : MAs} {th : Int} {l sr n b : Int} (hd : 4 ≤ d) (hS : MdS h s A) (hR : MoR s A S th) (hK : BOK S) (hl : inI l) (hsr : inI sr) (hn : inI n) (hb : inI b) : Ev k d mdX11_mayRun h [vR (70, 0), vI l, vI sr, vI n, vI b] 0 0 (pr (vI (if rnV S l sr n b then 1 else 0)) h) := by
  obtain ⟨m0, m2, m22, m27, m44, m45, m46, mTp, mLd, mRu, mRw, mFr⟩ := id hR
  obtain ⟨⟨kTa, kTb⟩, ⟨kL0, kL1⟩, ⟨kR0, kR1⟩, kLd, kRu, kRw, ⟨kT0, kT1⟩, kS0, kS1⟩ := id hK
  refine Ev.mk (by decide +kernel) [_, _, _, _, _] rfl (Nat.le_of_ble_eq_true rfl) (fun w hc he => ?_)
  refine j_aload_n hc dX11_mayRun_0 rfl ?_
  refine j_iload_n hc dX11_mayRun_1 rfl ?_
  refine j_callV (d' := d - 1) hc dX11_mayRun_2 vX11_257 hS.1 (ev_X11_isLand (by omega) hS hR hK hl) rfl (by omega) (by omega) (by omega) rfl rfl (Nat.le_of_ble_eq_true rfl) (ret1 ?_)
  refine j_if_eq (b := 0) (tgt := 40) hc dX11_mayRun_5 (by decide) (by split <;> exact ⟨by omega, by omega⟩) (fun zc1 => ?_) (fun zc1 => ?_)
  · have zw := one_neg zc1
    refine j_iconst hc dX11_mayRun_40 ?_
    exact j_zret hc he dX11_mayRun_41 rfl (by omega) (by omega) (by first | exact Or.inl rfl | exact Or.inr rfl) ⟨vI_eq (by first | rw [if_pos (by omega)] | rw [if_neg (by omega)]), rfl⟩
  · have zw := one_pos zc1
    refine j_iload_n hc dX11_mayRun_8 rfl ?_
    refine j_callS (d' := d - 1) hc dX11_mayRun_9 sX11_345 (ev_X11_isKind (by omega) hsr) rfl (by omega) (by omega) (by omega) rfl rfl (Nat.le_of_ble_eq_true rfl) (ret1 ?_)
    refine j_if_eq (b := 0) (tgt := 40) hc dX11_mayRun_12 (by decide) (by split <;> exact ⟨by omega, by omega⟩) (fun zc2 => ?_) (fun zc2 => ?_)
    · have zw2 := one_neg zc2
      refine j_iconst hc dX11_mayRun_40 ?_
      exact j_zret hc he dX11_mayRun_41 rfl (by omega) (by omega) (by first | exact Or.inl rfl | exact Or.inr rfl) ⟨vI_eq (by first | rw [if_pos (by omega)] | rw [if_neg (by omega)]), rfl⟩
    · have zw2 := one_pos zc2
      refine j_iload_n hc dX11_mayRun_15 rfl ?_
      refine j_iconst hc dX11_mayRun_16 ?_
      refine j_bipush hc dX11_mayRun_17 (by decide) ?_
      refine j_callS (d' := d - 1) hc dX11_mayRun_19 sX11_145 (ev_X11_in (by omega) hn ⟨by omega, by omega⟩ ⟨by omega, by omega⟩) rfl (by omega) (by omega) (by omega) rfl rfl (Nat.le_of_ble_eq_true rfl) (ret1 ?_)
      refine j_if_eq (b := 0) (tgt := 40) hc dX11_mayRun_22 (by decide) (by split <;> exact ⟨by omega, by omega⟩) (fun zc3 => ?_) (fun zc3 => ?_)
      · have zw3 := one_neg zc3
        refine j_iconst hc dX11_mayRun_40 ?_
        exact j_zret hc he dX11_mayRun_41 rfl (by omega) (by omega) (by first | exact Or.inl rfl | exact Or.inr rfl) ⟨vI_eq (by first | rw [if_pos (by omega)] | rw [if_neg (by omega)]), rfl⟩
      · have zw3 := one_pos zc3
        refine j_iload hc dX11_mayRun_25 rfl ?_
        refine j_iconst hc dX11_mayRun_27 ?_
        refine j_bipush hc dX11_mayRun_28 (by decide) ?_
        refine j_callS (d' := d - 1) hc dX11_mayRun_30 sX11_145 (ev_X11_in (by omega) hb ⟨by omega, by omega⟩ ⟨by omega, by omega⟩) rfl (by omega) (by omega) (by omega) rfl rfl (Nat.le_of_ble_eq_true rfl) (ret1 ?_)
        refine j_if_eq (b := 0) (tgt := 40) hc dX11_mayRun_33 (by decide) (by split <;> exact ⟨by omega, by omega⟩) (fun zc4 => ?_) (fun zc4 => ?_)
        · have zw4 := one_neg zc4
          refine j_iconst hc dX11_mayRun_40 ?_
          exact j_zret hc he dX11_mayRun_41 rfl (by omega) (by omega) (by first | exact Or.inl rfl | exact Or.inr rfl) ⟨vI_eq (by first | rw [if_pos (by omega)] | rw [if_neg (by omega)]), rfl⟩
        · have zw4 := one_pos zc4
          refine j_iconst hc dX11_mayRun_36 ?_
          refine j_goto (tgt := 41) hc dX11_mayRun_37 (by decide) ?_
          exact j_zret hc he dX11_mayRun_41 rfl (by omega) (by omega) (by first | exact Or.inl rfl | exact Or.inr rfl) ⟨vI_eq (by first | rw [if_pos (by omega)] | rw [if_neg (by omega)]), rfl⟩
def s37 (s : Int → Int) (l c : Int) : Int → Int := fu (fu s 37 l) 38 c
theorem MoR.s37 {s : Int → Int} {A : MAs} {S : BaS} {th l c : Int} (h : MoR s A S th) : MoR (fu (fu s 37 l) 38 c) A S th := h
abbrev isBg : Nm → Prop := fun z => z = (70, 0) ∨ z = (231, 0) ∨ z = (235, 0)
def BgA (s : Int → Int) (A : MAs) (D : LaS) (E : LaY) (ru : RU) (l : Int) (h h' : AH) : Prop := MdS h' (fu (fu s 37 l) 38 (lCo D)) A ∧ (∀ cs : Int, MoM h' D E ru cs) ∧ Fr isTb h h'
set_option maxRecDepth 100000 in
set_option maxHeartbeats 4000000 in
theorem lp_X11_begin {k : WC} {d : Nat} {w : MC} {h : AH} {s : Int → Int} {A : MAs} {l : Int} {Q : AH → Prop} (hc : Cx w k d 0 0 mdX11_begin) (he : Ends w 0 0 (pn Q)) (hk : ∀ (h' : AH) {kp ff : Int → Int}, MdS h' s A → h' (231, 0) = some (oZ 10660 kp) → h' (235, 0) = some (oZ 10660 ff) → (∀ i : Int, 0 ≤ i → i < 10660 → kp i = 0) → (∀ i : Int, 0 ≤ i → i < 10660 → ff i = 0) → Fr isBg h h' → Q h') : ∀ (m : Nat) (j : Int) (kp ff : Int → Int) (h' : AH), 0 ≤ j → j ≤ 10660 → (10660 - j).toNat = m → MdS h' s A → h' (231, 0) = some (oZ 10660 kp) → h' (235, 0) = some (oZ 10660 ff) → (∀ i : Int, 0 ≤ i → i < j → kp i = 0 ∧ ff i = 0) → Fr isBg h h' → J w 0 0 17 [some (vR (70, 0)), some (vI l), some (vI j)] [] h' := by
  intro m
  induction m using Nat.strongRecOn with
  | _ m ih =>
    intro j kp ff h' h0 h1 hm hS z31 z35 zz hF
    refine j_iload_n hc dX11_begin_17 rfl ?_
    refine j_sipush hc dX11_begin_18 (by decide) ?_
    refine j_icmp_ge (tgt := 44) hc dX11_begin_21 (by decide) ⟨by omega, by omega⟩ ⟨by omega, by omega⟩ (fun zc1 => ?_) (fun zc1 => ?_)
    · have zj : j = 10660 := by omega
      exact j_vret hc he dX11_begin_44 rfl (by omega) (by omega) ⟨rfl, hk _ hS z31 z35 (fun i h0 h1 => (zz i h0 (by omega)).1) (fun i h0 h1 => (zz i h0 (by omega)).2) hF⟩
    · refine j_aload_n hc dX11_begin_24 rfl ?_
      refine j_get hc dX11_begin_25 fX11_77 hS.1 rfl ?_
      refine j_iload_n hc dX11_begin_28 rfl ?_
      refine j_iconst hc dX11_begin_29 ?_
      refine j_zast hc dX11_begin_30 z31 (by first | exact Or.inl rfl | exact Or.inr rfl) (by omega) (by omega) ?_
      generalize ezh1 : up _ _ _ = zh1
      have zzmod_zh1 := MdS.mv ezh1 (by simp) hS
      have zM31_zh1 := (congrFun ezh1 _).symm.trans (up_same _ _ _)
      have zM35_zh1 := (congrFun ezh1 _).symm.trans ((up_ne (by simp)).trans z35)
      refine j_aload_n hc dX11_begin_31 rfl ?_
      refine j_get hc dX11_begin_32 fX11_90 zzmod_zh1.1 rfl ?_
      refine j_iload_n hc dX11_begin_35 rfl ?_
      refine j_iconst hc dX11_begin_36 ?_
      refine j_zast hc dX11_begin_37 zM35_zh1 (by first | exact Or.inl rfl | exact Or.inr rfl) (by omega) (by omega) ?_
      generalize ezh2 : up _ _ _ = zh2
      have zzmod_zh2 := MdS.mv ezh2 (by simp) zzmod_zh1
      have zM31_zh2 := (congrFun ezh2 _).symm.trans ((up_ne (by simp)).trans zM31_zh1)
      have zM35_zh2 := (congrFun ezh2 _).symm.trans (up_same _ _ _)
      refine j_iinc (L' := [_, _, _]) hc dX11_begin_38 rfl (Nat.le_of_ble_eq_true rfl) rfl ?_
      refine j_goto (tgt := 17) hc dX11_begin_41 (by decide) ?_
      exact ih (m - 1) (by omega) (j + 1) _ _ _ (by omega) (by omega) (by omega) zzmod_zh2 zM31_zh2 zM35_zh2 (fun i h0 h1 => (by by_cases e : i = j; (· subst e; exact ⟨fu_same _ _ _, fu_same _ _ _⟩); exact ⟨(fu_ne e).trans (zz i h0 (by omega)).1, (fu_ne e).trans (zz i h0 (by omega)).2⟩)) (by rw [← ezh2, ← ezh1]; exact (hF.push (by decide)).push (by decide))
set_option maxRecDepth 100000 in
set_option maxHeartbeats 4000000 in
theorem ev_X11_begin {k : WC} {d : Nat} {h : AH} {s : Int → Int} {A : MAs} {l : Int} {D : LaS} {E : LaY} {ru : RU} (hd : 1 ≤ d) (hS : MdS h s A) (hM : MlD A l D E) (hD : LOK D) (hE : YOK E) (hB : MoB h) : Ev k d mdX11_begin h [vR (70, 0), vI l] 0 0 (pn (BgA s A D E ru l h)) := by
  obtain ⟨⟨zl0, zl1⟩, mSe, mNe, mPa, mCo, mMi, mRo, mLa, mRn, mHv, mBu, mSl, mGr, mTb⟩ := id hM
  obtain ⟨d1, d2, d3, d4, d5, d6, d7, d8, d9, d10, d11, d12, d13⟩ := id hD
  obtain ⟨y1, y2, y3, y4, y5, y6, y7, y8, y9, y10⟩ := id hE
  obtain ⟨⟨f30, z30⟩, ⟨f31, z31⟩, ⟨f32, z32⟩, ⟨f33, z33⟩, ⟨f34, z34⟩, ⟨f35, z35⟩, f36, z36⟩ := id hB
  refine Ev.mk (by decide +kernel) [_, _, _] rfl (Nat.le_of_ble_eq_true rfl) (fun w hc he => ?_)
  refine j_aload_n hc dX11_begin_0 rfl ?_
  refine j_iload_n hc dX11_begin_1 rfl ?_
  refine j_put  hc dX11_begin_2 pX11_278 hS.1 rfl mset_37 ?_
  generalize ezh1 : up _ _ _ = zh1
  have zzmod_zh1 := MdS.pf ezh1 hS
  have zM30_zh1 := (congrFun ezh1 _).symm.trans ((up_ne (by simp)).trans z30)
  have zM31_zh1 := (congrFun ezh1 _).symm.trans ((up_ne (by simp)).trans z31)
  have zM32_zh1 := (congrFun ezh1 _).symm.trans ((up_ne (by simp)).trans z32)
  have zM33_zh1 := (congrFun ezh1 _).symm.trans ((up_ne (by simp)).trans z33)
  have zM34_zh1 := (congrFun ezh1 _).symm.trans ((up_ne (by simp)).trans z34)
  have zM35_zh1 := (congrFun ezh1 _).symm.trans ((up_ne (by simp)).trans z35)
  have zM36_zh1 := (congrFun ezh1 _).symm.trans ((up_ne (by simp)).trans z36)
  refine j_aload_n hc dX11_begin_5 rfl ?_
  refine j_aload_n hc dX11_begin_6 rfl ?_
  refine j_get hc dX11_begin_7 fX11_34 zzmod_zh1.1 rfl ?_
  refine j_iload_n hc dX11_begin_10 rfl ?_
  refine j_iald hc dX11_begin_11 zzmod_zh1.2.2.2.2.2.2.2.2.2.1 (by omega) (by omega) ?_
  rw [mCo]
  refine j_put  hc dX11_begin_12 pX11_281 zzmod_zh1.1 rfl mset_38 ?_
  generalize ezh2 : up _ _ _ = zh2
  have zzmod_zh2 := MdS.pf ezh2 zzmod_zh1
  have zM30_zh2 := (congrFun ezh2 _).symm.trans ((up_ne (by simp)).trans zM30_zh1)
  have zM31_zh2 := (congrFun ezh2 _).symm.trans ((up_ne (by simp)).trans zM31_zh1)
  have zM32_zh2 := (congrFun ezh2 _).symm.trans ((up_ne (by simp)).trans zM32_zh1)
  have zM33_zh2 := (congrFun ezh2 _).symm.trans ((up_ne (by simp)).trans zM33_zh1)
  have zM34_zh2 := (congrFun ezh2 _).symm.trans ((up_ne (by simp)).trans zM34_zh1)
  have zM35_zh2 := (congrFun ezh2 _).symm.trans ((up_ne (by simp)).trans zM35_zh1)
  have zM36_zh2 := (congrFun ezh2 _).symm.trans ((up_ne (by simp)).trans zM36_zh1)
  refine j_iconst hc dX11_begin_15 ?_
  refine j_istore_n (L' := [_, _, _]) hc dX11_begin_16 (Nat.le_of_ble_eq_true rfl) rfl ?_
  exact lp_X11_begin hc he (fun h' zkp zff q1 q2 q3 q4 q5 q6 => ⟨q1, fun _ => ⟨⟨zkp, f32, f33, f34, q2, ((q6 _ (by decide)).trans zM32_zh2), ((q6 _ (by decide)).trans zM33_zh2), ((q6 _ (by decide)).trans zM34_zh2), ⟨f30, ((q6 _ (by decide)).trans zM30_zh2)⟩, fun kd n q a p0 p1 p2 p3 p4 p5 p6 p7 => (have zi := kIx_b (kd := kd) (n := n) (q := q) (a := a) (by omega) p1 p2 p3 p4 (by omega) p6 p7; have z0 := q4 _ zi.1 zi.2; ⟨Or.inl z0, fun y => absurd (z0.symm.trans y) (by decide)⟩)⟩, zff, f36, q3, ((q6 _ (by decide)).trans zM36_zh2), fun kd n q a p0 p1 p2 p3 p4 p5 p6 p7 => (have zi := kIx_b (kd := kd) (n := n) (q := q) (a := a) p0 p1 p2 p3 p4 (by omega) p6 p7; have z0 := q5 _ zi.1 zi.2; ⟨Or.inl z0, fun y => absurd (z0.symm.trans y) (by decide)⟩)⟩, Fr.tr (by rw [← ezh2, ← ezh1]; exact ((Fr.rf _ _).push (Or.inl rfl)).push (Or.inl rfl)) (q6.mono fun z zz => by rcases zz with zz | zz | zz <;> (rw [zz]; decide))⟩) _ 0 _ _ _ (by omega) (by omega) rfl zzmod_zh2 zM31_zh2 zM35_zh2 (fun i h0 h1 => by omega) (Fr.rf _ _)
