theorem in6 {x : Int32} (h : 0 ≤ x ∧ x < 6) : vp_in x 6 := vpin_b (a := 0) (n := 6) (by decide) h.1 (by decide) h.2
theorem in64 {x : Int32} (h : 0 ≤ x ∧ x ≤ 63) : vp_in x 64 := vpin_b (a := 0) (n := 64) (by decide) h.1 (by decide) (lt_of_le9 (k := 63) (by decide) h.2)
theorem in8 {x : Int32} (h : 2 ≤ x ∧ x ≤ 7) : vp_in x 8 := vpin_b (a := 2) (n := 8) (by decide) h.1 (by decide) (lt_of_le9 (k := 7) (by decide) h.2)
theorem in10 {x : Int32} (h : 1 ≤ x ∧ x ≤ 9) : vp_in x 10 := vpin_b (a := 1) (n := 10) (by decide) h.1 (by decide) (lt_of_le9 (k := 9) (by decide) h.2)
theorem in10k {x : Int32} (h : 0 ≤ x ∧ x ≤ 9999) : vp_in x 10000 := vpin_b (a := 0) (n := 10000) (by decide) h.1 (by decide) (lt_of_le9 (k := 9999) (by decide) h.2)
theorem lot_cv {x : Int32} : (0 ≤ x ∧ x ≤ 9999) ↔ (¬ x < 0 ∧ ¬ 10000 ≤ x) := by
  simp only [Int32.le_iff_toInt_le, Int32.lt_iff_toInt_lt]
  have h0 : (0 : Int32).toInt = 0 := by decide
  have h1 : (9999 : Int32).toInt = 9999 := by decide
  have h2 : (10000 : Int32).toInt = 10000 := by decide
  rw [h0, h1, h2]
  omega
theorem ok_day : Ok mX5_day mX6_day [] := by
  intro M K n hI
  obtain ⟨M1, s1, c1, f1⟩ := y_day hI.hC hI.hG
  have e85 := f1 85 (by omega)
  obtain ⟨M2, s2, q2⟩ := r_day (M := M1) (K := K) (by rw [e85]; exact hI.hG) hI.hK (by rw [f1 84 (by omega)]; exact hI.hk)
  rw [e85] at s2 q2
  exact ok_rec hI (by omega) (by omega) s1 s2 c1 f1 q2 (Good_pass hI.hG)
theorem ok_call : Ok mX5_call mX6_call [] := by
  intro M K n hI
  obtain ⟨M1, s1, c1, f1⟩ := y_call hI.hC hI.hV
  have e85 := f1 85 (by omega)
  obtain ⟨M2, s2, q2⟩ := r_call (M := M1) (K := K) (by rw [e85]; exact hI.hV) hI.hK (by rw [f1 84 (by omega)]; exact hI.hk)
  rw [e85] at s2 q2
  exact ok_rec hI (by omega) (by omega) s1 s2 c1 f1 q2 (Good_callW hI.hG)
theorem ok_come (mk w : Int32) : Ok mX5_come mX6_come [.int mk, .int w] := by
  intro M K n hI
  by_cases hx : (0 ≤ mk ∧ mk < 6) ∧ (0 ≤ w ∧ w ≤ 63)
  · by_cases h6 : nT (M 85) < 7
    · obtain ⟨M1, s1, c1, f1⟩ := y_come1 hI.hC hI.hV h6 hx.1 hx.2
      have e85 := f1 85 (by omega)
      obtain ⟨M2, s2, q2⟩ := r_come1 (M := M1) (K := K) (by rw [e85]; exact hI.hV) hI.hK (by rw [f1 84 (by omega)]; exact hI.hk) hx.1 hx.2 (by rw [e85]; exact h6)
      rw [e85] at s2 q2
      exact ok_rec hI (by omega) (by omega) s1 s2 c1 f1 q2 (Good_come hI.hG h6 (in6 hx.1) (in64 hx.2))
    · have h7 : nT (M 85) = 7 := by have := (WF_n hI.hV).1; omega
      have h1 : M 85 1 = 7 := by rw [(WF_n hI.hV).2, h7]; rfl
      exact ok_same hI (by omega) (by omega) (y_comeL hx.1 hx.2 (hI.hR.1.1.trans h1)) (r_comeL hx.1 hx.2 h1)
  · exact ok_same hI (by omega) (by omega) (y_come0 hx) (r_come0 hx)
theorem ok_go (t : Int32) : Ok mX5_go mX6_go [.int t] := by
  intro M K n hI
  cases hb : hasB (M 85) t with
  | true =>
    obtain ⟨j, hj, rfl⟩ := hasB_of hI.hV hb
    obtain ⟨M1, s1, c1, f1⟩ := y_go1 hI.hC hI.hV hj
    have e85 := f1 85 (by omega)
    obtain ⟨M2, s2, q2⟩ := r_go1 (M := M1) (K := K) (by rw [e85]; exact hI.hV) hI.hK (by rw [f1 84 (by omega)]; exact hI.hk) (t := j) (by rw [e85]; exact hj)
    rw [e85] at s2 q2
    exact ok_rec hI (by omega) (by omega) s1 s2 c1 f1 q2 (Good_go hI.hG hj)
  | false => exact ok_same hI (by omega) (by omega) (y_go0 hI.hR hI.hV hb) (r_go0 hI.hV hb)
theorem ok_want (t x : Int32) : Ok mX5_want mX6_want [.int t, .int x] := by
  intro M K n hI
  by_cases hx : hasB (M 85) t = true ∧ 0 ≤ x ∧ x ≤ 63
  · obtain ⟨j, hj, rfl⟩ := hasB_of hI.hV hx.1
    obtain ⟨M1, s1, c1, f1⟩ := y_want1 hI.hC hI.hV hj hx.2
    have e85 := f1 85 (by omega)
    obtain ⟨M2, s2, q2⟩ := r_want1 (M := M1) (K := K) (by rw [e85]; exact hI.hV) hI.hK (by rw [f1 84 (by omega)]; exact hI.hk) (t := j) (by rw [e85]; exact hj) hx.2
    rw [e85] at s2 q2
    exact ok_rec hI (by omega) (by omega) s1 s2 c1 f1 q2 (Good_want hI.hG (in64 hx.2))
  · exact ok_same hI (by omega) (by omega) (y_want0 hI.hR hI.hV hx) (r_want0 hI.hV hx)
theorem ok_life (k x : Int32) : Ok mX5_life mX6_life [.int k, .int x] := by
  intro M K n hI
  by_cases hx : (0 ≤ k ∧ k < 6) ∧ (1 ≤ x ∧ x ≤ 9)
  · obtain ⟨j, hj, rfl⟩ := vp_in_of (in6 hx.1) (by decide)
    obtain ⟨M1, s1, c1, f1⟩ := y_life1 hI.hC hI.hV hj (Int32.not_lt.mpr hx.2.1) (Int32.not_lt.mpr hx.2.2)
    have e85 := f1 85 (by omega)
    obtain ⟨M2, s2, q2⟩ := r_life1 (M := M1) (K := K) (by rw [e85]; exact hI.hV) hI.hK (by rw [f1 84 (by omega)]; exact hI.hk) hj hx.2
    rw [e85] at s2 q2
    exact ok_rec hI (by omega) (by omega) s1 s2 c1 f1 q2 (Good_life hI.hG hj ⟨in10 hx.2, Int32.lt_of_lt_of_le (by decide) hx.2.1⟩)
  · exact ok_same hI (by omega) (by omega) (y_life0 hx) (r_life0 hx)
theorem ok_circle (x : Int32) : Ok mX5_circle mX6_circle [.int x] := by
  intro M K n hI
  by_cases hx : 2 ≤ x ∧ x ≤ 7
  · obtain ⟨M1, s1, c1, f1⟩ := y_circle1 hI.hC hI.hV hx
    have e85 := f1 85 (by omega)
    obtain ⟨M2, s2, q2⟩ := r_circle1 (M := M1) (K := K) (by rw [e85]; exact hI.hV) hI.hK (by rw [f1 84 (by omega)]; exact hI.hk) hx
    rw [e85] at s2 q2
    exact ok_rec hI (by omega) (by omega) s1 s2 c1 f1 q2 (Good_cir hI.hG ⟨in8 hx, hx.1⟩)
  · exact ok_same hI (by omega) (by omega) (y_circle0 hx) (r_circle0 hx)
theorem ok_lot (x : Int32) : Ok mX5_lot mX6_lot [.int x] := by
  intro M K n hI
  by_cases hx : 0 ≤ x ∧ x ≤ 9999
  · obtain ⟨M1, s1, c1, f1⟩ := y_lot1 hI.hC hI.hV (lot_cv.mp hx).1 (lot_cv.mp hx).2
    have e85 := f1 85 (by omega)
    obtain ⟨M2, s2, q2⟩ := r_lot1 (M := M1) (K := K) (by rw [e85]; exact hI.hV) hI.hK (by rw [f1 84 (by omega)]; exact hI.hk) hx
    rw [e85] at s2 q2
    exact ok_rec hI (by omega) (by omega) s1 s2 c1 f1 q2 (Good_lot hI.hG (in10k hx))
  · refine ok_same hI (by omega) (by omega) (y_lot0 ?_) (r_lot0 hx)
    rcases Classical.em (x < 0) with h | h
    · exact Or.inl h
    · right
      rcases Classical.em (10000 ≤ x) with q | q
      · exact q
      · exact absurd (lot_cv.mpr ⟨h, q⟩) hx
theorem both_of {V : Row} (hV : WF V) {a b : Int32} (h : bothB V a b = true) : ∃ i j, i < nT V ∧ j < nT V ∧ a = nI i ∧ b = nI j := by
  simp only [bothB, Bool.and_eq_true] at h
  obtain ⟨i, hi, rfl⟩ := hasB_of hV h.1.1
  obtain ⟨j, hj, rfl⟩ := hasB_of hV h.1.2
  exact ⟨i, j, hi, hj, rfl, rfl⟩
theorem ok_barter (a b : Int32) : Ok mX5_barter mX6_barter [.int a, .int b] := by
  intro M K n hI
  cases hb : bothB (M 85) a b with
  | true =>
    obtain ⟨i, j, hi, hj, rfl, rfl⟩ := both_of hI.hV hb
    obtain ⟨M1, s1, c1, f1⟩ := y_barter1 hI.hC hI.hV hi hj hb
    have e85 := f1 85 (by omega)
    obtain ⟨M2, s2, q2⟩ := r_barter1 (M := M1) (K := K) (by rw [e85]; exact hI.hV) hI.hK (by rw [f1 84 (by omega)]; exact hI.hk) (a := i) (b := j) (by rw [e85]; exact hi) (by rw [e85]; exact hj) (by rw [e85]; exact hb)
    rw [e85] at s2 q2
    exact ok_rec hI (by omega) (by omega) s1 s2 c1 f1 q2 (Good_bart hI.hG hi hj)
  | false => exact ok_same hI (by omega) (by omega) (y_barter0 hI.hR hI.hV hb) (r_barter0 hI.hV hb)
