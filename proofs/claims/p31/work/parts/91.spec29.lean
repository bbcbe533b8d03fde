theorem in6 {x : Int32} (h : 0 ≤ x ∧ x < 6) : vp_in x 6 := vpin_b (a := 0) (n := 6) (by decide) h.1 (by decide) h.2
theorem in64 {x : Int32} (h : 0 ≤ x ∧ x ≤ 63) : vp_in x 64 := vpin_b (a := 0) (n := 64) (by decide) h.1 (by decide) (lt_of_le9 (k := 63) (by decide) h.2)
theorem in8 {x : Int32} (h : 2 ≤ x ∧ x ≤ 7) : vp_in x 8 := vpin_b (a := 2) (n := 8) (by decide) h.1 (by decide) (lt_of_le9 (k := 7) (by decide) h.2)
theorem in10 {x : Int32} (h : 1 ≤ x ∧ x ≤ 9) : vp_in x 10 := vpin_b (a := 1) (n := 10) (by decide) h.1 (by decide) (lt_of_le9 (k := 9) (by decide) h.2)
theorem in10k {x : Int32} (h : 0 ≤ x ∧ x ≤ 9999) : vp_in x 10000 := vpin_b (a := 0) (n := 10000) (by decide) h.1 (by decide) (lt_of_le9 (k := 9999) (by decide) h.2)
theorem lot_cv {x : Int32} : (0 ≤ x ∧ x ≤ 9999) ↔ (¬ x < 0 ∧ ¬ 10000 ≤ x) := by
  simp only [Int32.le_iff_toInt_le, Int32.lt_iff_toInt_lt]
  have h0 : (0 : Int32).toInt = 0 := by decide
  have h1 : (9999 : Int32).toInt = 9999 := by decide
  have h2 : (10000 : Int32).toInt = 10000 := by decide
  rw [h0, h1, h2]
  omega
theorem both_of {V : Row} (hV : WF V) {a b : Int32} (h : bothB V a b = true) : ∃ i j, i < nT V ∧ j < nT V ∧ a = nI i ∧ b = nI j := by
  simp only [bothB, Bool.and_eq_true] at h
  obtain ⟨i, hi, rfl⟩ := hasB_of hV h.1.1
  obtain ⟨j, hj, rfl⟩ := hasB_of hV h.1.2
  exact ⟨i, j, hi, hj, rfl, rfl⟩
