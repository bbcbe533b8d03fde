theorem at_nI {k w : Nat} : 22 + 5 * nI k + nI w = nI (22 + 5 * k + w) := by
  rw [show (22 : Int32) = nI 22 from rfl, show (5 : Int32) = nI 5 from rfl, pk_mul, nI_add, nI_add]
theorem ofk_nI {k w : Nat} : 10 + 2 * nI k + nI w = nI (10 + 2 * k + w) := by
  rw [show (10 : Int32) = nI 10 from rfl, show (2 : Int32) = nI 2 from rfl, pk_mul, nI_add, nI_add]
theorem b6 {V : Row} (hV : WF V) {j : Nat} (hj : j < nT V) : j < 7 := by
  have := (WF_n hV).1
  omega
theorem kd_nI {V : Row} (hV : WF V) {j : Nat} (hj : j < nT V) : V (24 + 5 * j) = nI (kd V j) := vpin_nI (hV.2.1 j hj).2.2.1
theorem kd_lt {V : Row} (hV : WF V) {j : Nat} (hj : j < nT V) : kd V j < 6 := vpin_lt (hV.2.1 j hj).2.2.1
theorem dl_z {V : Row} {j : Nat} : dl V j = 0 ↔ ¬ 0 < dli V j := by
  unfold dl
  split
  · constructor
    · intro h; rw [h] at *; simp_all
    · intro h; contradiction
  · simp [*]
