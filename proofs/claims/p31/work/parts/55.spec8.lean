theorem rowN_0 {V W : Row} : rowN V 0 W = W := by funext j; simp [rowN]
theorem rowN_s {V W : Row} {i : Nat} : upd (rowN V i W) i (V i) = rowN V (i + 1) W := by
  funext j
  simp only [rowN, upd]
  grind
theorem row2 {M : Mem} {a b : Nat} {V W : Row} (h : a ≠ b) : setR (setR M a V) b W = setR (setR M b W) a V := by
  funext k
  simp only [setR]
  grind
def warR (V : Row) : Row := fun t => V (24 + 5 * t)
def ageR (V : Row) : Row := fun t => V (25 + 5 * t)
def lwM (M : Mem) (i : Nat) : Mem := setR (setR M 93 (rowN (warR (M 85)) i (M 93))) 94 (rowN (ageR (M 85)) i (M 94))
theorem lwM_0 {M : Mem} : lwM M 0 = M := by
  unfold lwM
  rw [rowN_0, rowN_0, row_self, row_self]
theorem lwM_85 {M : Mem} {i : Nat} : lwM M i 85 = M 85 := by unfold lwM; rw [row_ne (by decide), row_ne (by decide)]
theorem lwM_s {M : Mem} {i : Nat} : updM (updM (lwM M i) 93 i (M 85 (24 + 5 * i))) 94 i (M 85 (25 + 5 * i)) = lwM M (i + 1) := by
  have e1 : updM (lwM M i) 93 i (M 85 (24 + 5 * i)) = setR (setR M 93 (rowN (warR (M 85)) (i + 1) (M 93))) 94 (rowN (ageR (M 85)) i (M 94)) := by
    rw [updM_row]
    unfold lwM
    rw [row_ne (by decide), row_at, row2 (by decide), row_row]
    rw [show M 85 (24 + 5 * i) = warR (M 85) i from rfl, rowN_s]
  rw [e1, updM_row, row_at, row_row, show M 85 (25 + 5 * i) = ageR (M 85) i from rfl, rowN_s]
  rfl
theorem lt7 {i : Nat} (h1 : i ≤ 7) (c : ¬ (7 : Int32) ≤ nI i) : i < 7 := by
  rcases Nat.lt_or_ge i 7 with q | q
  · exact q
  · exact absurd (nI_le (a := 7) (b := i) q (by omega)) c
theorem eq7 {i : Nat} (h1 : i ≤ 7) (c : (7 : Int32) ≤ nI i) : i = 7 := by
  have := (nI_leI (a := 7) (b := i) (by decide) (by omega)).mp c
  omega
theorem lt57 {i : Nat} (h1 : i ≤ 57) (c : ¬ (57 : Int32) ≤ nI i) : i < 57 := by
  rcases Nat.lt_or_ge i 57 with q | q
  · exact q
  · exact absurd (nI_le (a := 57) (b := i) q (by omega)) c
theorem eq57 {i : Nat} (h1 : i ≤ 57) (c : (57 : Int32) ≤ nI i) : i = 57 := by
  have := (nI_leI (a := 57) (b := i) (by decide) (by omega)).mp c
  omega
theorem lt171 {i : Nat} (h1 : i ≤ 171) (c : ¬ (171 : Int32) ≤ nI i) : i < 171 := by
  rcases Nat.lt_or_ge i 171 with q | q
  · exact q
  · exact absurd (nI_le (a := 171) (b := i) q (by omega)) c
theorem eq171 {i : Nat} (h1 : i ≤ 171) (c : (171 : Int32) ≤ nI i) : i = 171 := by
  have := (nI_leI (a := 171) (b := i) (by decide) (by omega)).mp c
  omega
def bRow (V : Row) (a b : Nat) : Row := bartV V a b
theorem rsn_01 (V : Row) (a b : Nat) : rsn V a b = 0 ∨ 0 < rsn V a b := by
  unfold rsn
  repeat' split
  all_goals first | (left; rfl) | (right; decide)
def shN (H : Row) (i : Nat) : Row := fun j => if j < i then H (j + 57) else H j
theorem shN_0 {H : Row} : shN H 0 = H := by funext j; simp [shN]
theorem shN_s {H : Row} {i : Nat} : upd (shN H i) i (shN H i (i + 57)) = shN H (i + 1) := by
  funext j
  simp only [shN, upd]
  grind
def ptN (H V : Row) (K i : Nat) : Row := fun j => if 57 * K ≤ j ∧ j < 57 * K + i then V (j - 57 * K) else H j
theorem ptN_0 {H V : Row} {K : Nat} : ptN H V K 0 = H := by
  funext j
  simp only [ptN]
  rw [if_neg (by omega)]
theorem ptN_s {H V : Row} {K i : Nat} : upd (ptN H V K i) (57 * K + i) (V i) = ptN H V K (i + 1) := by
  funext j
  simp only [ptN, upd]
  by_cases h : j = 57 * K + i
  · subst h
    rw [if_pos rfl, if_pos (by omega)]
    congr 1
    omega
  · rw [if_neg h]
    by_cases h2 : 57 * K ≤ j ∧ j < 57 * K + i
    · rw [if_pos h2, if_pos (by omega)]
    · rw [if_neg h2, if_neg (by omega)]
/-- the reference's record: the row M 85 at the end of the history -/
def recH (M : Mem) (K : Nat) : Row := if K = 4 then ptN (shN (M 87) 171) (M 85) 3 57 else ptN (M 87) (M 85) K 57
def recK (K : Nat) : Nat := if K = 4 then 4 else K + 1
def recM (M : Mem) (K : Nat) : Mem := updM (setR M 87 (recH M K)) 84 3 (nI (recK K))
theorem su_1 {M : Mem} {S : Row} {x : Int32} : setR (updM (setR M 87 S) 84 3 x) 87 S = updM (setR M 87 S) 84 3 x := by
  funext k j
  by_cases h : k = 87
  · subst h; simp [updM, setR]
  · simp [updM, setR, h]
theorem su_2 {M : Mem} {S T : Row} {x y : Int32} : updM (setR (updM (setR M 87 S) 84 3 x) 87 T) 84 3 y = updM (setR M 87 T) 84 3 y := by
  funext k j
  by_cases h : k = 87
  · subst h; simp [updM, setR]
  · by_cases h2 : k = 84
    · subst h2
      by_cases h3 : j = 3
      · simp [updM, setR, h3]
      · simp [updM, setR, h3]
    · simp [updM, setR, h, h2]
