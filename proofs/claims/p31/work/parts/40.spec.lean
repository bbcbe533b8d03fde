/-! the market as one row V of numbers, as the reference holds it -/
abbrev Row : Type := Nat → Int32
def b2i (b : Bool) : Int32 := if b = true then 1 else 0
theorem b2i_nar (b : Bool) : narrow .boolean (.int (b2i b)) = .int (b2i b) := by cases b <;> rfl
def nT (V : Row) : Nat := (V 1).toNatClampNeg
def kd (V : Row) (j : Nat) : Nat := (V (24 + 5 * j)).toNatClampNeg
def dli (V : Row) (j : Nat) : Int32 := V (10 + 2 * kd V j) - V (25 + 5 * j)
def dl (V : Row) (j : Nat) : Int32 := if 0 < dli V j then dli V j else 0
def wb (V : Row) (t g : Nat) : Int32 := (V (23 + 5 * t) >>> (V (24 + 5 * g) &&& 31)) &&& 1
def canV (V : Row) (t g : Nat) : Bool := decide (t ≠ g) && decide (V 9 ≠ nI t) && decide (V 9 ≠ nI g) && decide (0 < dli V t) && decide (0 < dli V g) && decide (wb V t g = 1)
def hasB (V : Row) (t : Int32) : Bool := decide (0 ≤ t) && decide (t < V 1)
def WFt (V : Row) (j : Nat) : Prop := vp_in (V (22 + 5 * j)) 6 ∧ vp_in (V (23 + 5 * j)) 64 ∧ vp_in (V (24 + 5 * j)) 6 ∧ vp_in (V (25 + 5 * j)) 11
def WF (V : Row) : Prop := vp_in (V 1) 8 ∧ (∀ j, j < nT V → WFt V j) ∧ (∀ k, k < 6 → vp_in (V (10 + 2 * k)) 10 ∧ 0 < V (10 + 2 * k)) ∧ (vp_in (V 7) 8 ∧ 2 ≤ V 7) ∧ vp_in (V 8) 10000 ∧ (V 9 = -4 ∨ vp_in (V 9) (nT V))
def mSum (V : Row) : Int32 := V 11 + V 13 + V 15 + V 17 + V 19 + V 21
def IsMk (o : Nat) : Prop := (∀ i, i < 10 → o + i < NC) ∧ ∀ i, i < 10 → SH (o + i) = mkS o i
theorem mk1 : IsMk 1 := ⟨by decide, by decide⟩
theorem mk11 : IsMk 11 := ⟨by decide, by decide⟩
theorem mk21 : IsMk 21 := ⟨by decide, by decide⟩
theorem mk33 : IsMk 33 := ⟨by decide, by decide⟩
theorem mk43 : IsMk 43 := ⟨by decide, by decide⟩
theorem mk53 : IsMk 53 := ⟨by decide, by decide⟩
theorem mk63 : IsMk 63 := ⟨by decide, by decide⟩
/-- the class' market at the cells from o on holds the row V -/
def RM (M : Mem) (o : Nat) (V : Row) : Prop := (M o 7 = V 1 ∧ M o 8 = V 7 ∧ M o 9 = V 0 ∧ M o 10 = V 8 ∧ ((M o 11 = -1 ∧ V 9 = -4) ∨ (M o 11 = V 9 ∧ vp_in (V 9) (nT V))) ∧ M o 12 = V 3 ∧ M o 13 = V 4 ∧ M o 14 = V 5 ∧ M o 15 = V 6 ∧ V 2 = mSum V) ∧
  (∀ k, k < 6 → M (o + 6) k = V (10 + 2 * k) ∧ M (o + 7) k = V (11 + 2 * k)) ∧
  ∀ j, j < nT V → M (o + 1) j = V (22 + 5 * j) ∧ M (o + 2) j = V (23 + 5 * j) ∧ M (o + 3) j = V (24 + 5 * j) ∧ M (o + 4) j = V (25 + 5 * j) ∧ M (o + 5) j = V (26 + 5 * j)
theorem vpin_le {x : Int32} {n m : Nat} (h : vp_in x n) (hm : n ≤ m) : vp_in x m := fun q => h (q.imp id (fun z => Nat.le_trans hm z))
theorem vpin_nI {x : Int32} {n : Nat} (h : vp_in x n) : x = nI x.toNatClampNeg := by
  have h0 : ¬ x < 0 := fun q => h (Or.inl q)
  obtain ⟨j, hj, rfl⟩ := nI_of h0
  rw [nI_clamp hj]
theorem vpin_lt {x : Int32} {n : Nat} (h : vp_in x n) : x.toNatClampNeg < n := vp_in_lt h
theorem WF_n {V : Row} (h : WF V) : nT V ≤ 7 ∧ V 1 = nI (nT V) := by
  have h1 := vpin_lt h.1
  exact ⟨by unfold nT; omega, vpin_nI h.1⟩
theorem hasB_nI {V : Row} (h : WF V) {j : Nat} (hj : j < 2 ^ 31) : hasB V (nI j) = decide (j < nT V) := by
  obtain ⟨h1, h2⟩ := WF_n h
  have h3 : (0 ≤ nI j) := nI_pos' hj
  have h4 : nI j < V 1 ↔ j < nT V := by rw [h2]; exact nI_ltI hj (by omega)
  simp [hasB, h3, h4]
theorem hasB_of {V : Row} (h : WF V) {t : Int32} (ht : hasB V t = true) : ∃ j, j < nT V ∧ t = nI j := by
  simp only [hasB, Bool.and_eq_true, decide_eq_true_eq] at ht
  obtain ⟨h1, h2⟩ := WF_n h
  obtain ⟨j, hj, rfl⟩ := nI_of (x := t) (by intro q; exact absurd (Int32.lt_of_lt_of_le q ht.1) (by simp))
  refine ⟨j, ?_, rfl⟩
  rw [h2] at ht
  exact (nI_ltI hj (by omega)).mp ht.2
theorem cat8 {l : List Value} (h : Nat.ble ((l.map fun v => v.category).sum) 8 = true) : (l.map fun v => v.category).sum ≤ 8 := Nat.le_of_ble_eq_true h
