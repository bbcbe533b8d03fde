def PadR (M : Mem) (P : Row) (n : Nat) : Prop := M 84 7 = nI n ∧ ∀ j, j < n → M 89 j = P j
def wend (P : Row) (n : Nat) : Nat → Nat → Int32 → Nat
  | 0, a, _ => a
  | k + 1, a, lw => if lw ≤ P a ∧ P a ≤ 53 then wend P n k (a + 1) (P a + 1) else a
def btE (P : Row) (n i : Nat) : Nat ⊕ Nat :=
  if ¬ (48 ≤ chF P n i ∧ chF P n i ≤ 53) then .inl i
  else if ¬ chF P n (i + 1) = 62 then .inl (i + 1)
  else if wend P n (n - (i + 2)) (i + 2) 48 = i + 2 then .inl (i + 2)
  else .inr (wend P n (n - (i + 2)) (i + 2) 48)
def btI (x : Nat ⊕ Nat) : Int32 := match x with
  | .inl p => -1 - nI p
  | .inr e => nI e
theorem wend_ge {P : Row} {n : Nat} : ∀ (k a : Nat) (lw : Int32), a ≤ wend P n k a lw ∧ wend P n k a lw ≤ a + k
  | 0, a, _ => by simp [wend]
  | k + 1, a, lw => by
    rw [wend]
    split
    · have := wend_ge (P := P) (n := n) k (a + 1) (P a + 1)
      omega
    · omega
theorem ch_pos {P : Row} {n i : Nat} {lw : Int32} (h0 : 0 < lw) (h : lw ≤ chF P n i) : i < n := by
  unfold chF at h
  rcases Nat.lt_or_ge i n with q | q
  · exact q
  · rw [if_neg (by omega)] at h
    exact absurd (Int32.lt_of_lt_of_le h0 h) (by simp)
theorem btE_spec {P : Row} {n i : Nat} : (∀ p, btE P n i = .inl p → p ≤ i + 2 ∧ (i ≤ n → p ≤ n)) ∧ (∀ e, btE P n i = .inr e → i + 2 < e ∧ e ≤ n) := by
  have h1 := wend_ge (P := P) (n := n) (n - (i + 2)) (i + 2) 48
  unfold btE
  constructor
  · intro p hp
    split at hp
    · cases hp; omega
    · rename_i c0
      have hi : i < n := ch_pos (lw := 48) (by decide) (Classical.not_not.mp c0).1
      split at hp
      · cases hp; omega
      · rename_i c1
        have hi2 : i + 1 < n := ch_pos (lw := 62) (by decide) (by rw [Classical.not_not.mp c1]; exact Int32.le_refl _)
        split at hp
        · cases hp; omega
        · cases hp
  · intro e he
    split at he
    · cases he
    · split at he
      · cases he
      · rename_i c1
        have hi2 : i + 1 < n := ch_pos (lw := 62) (by decide) (by rw [Classical.not_not.mp c1]; exact Int32.le_refl _)
        split at he
        · cases he
        · cases he; omega
def ftR (P : Row) (n : Nat) : Nat → Nat → Nat → Int32 × Nat
  | 0, _, t => (0, t)
  | f + 1, i, t => match btE P n i with
    | .inl p => (nI p, t)
    | .inr e => if e < n then (if P e = 44 then ftR P n f (e + 1) (t + 1) else (nI e, t + 1)) else (-4, t + 1)
def fdR (P : Row) (n : Nat) : Nat → Nat → Int32
  | 0, _ => 0
  | f + 1, i => if i < n then
      (if P i = 120 then
        (if ¬ (48 ≤ chF P n (i + 1) ∧ chF P n (i + 1) ≤ 54) then nI (i + 1)
         else if ¬ (48 ≤ chF P n (i + 2) ∧ chF P n (i + 2) ≤ 54) ∨ chF P n (i + 2) = chF P n (i + 1) then nI (i + 2)
         else fdR P n f (i + 3))
       else if P i = 99 ∨ P i = 100 then fdR P n f (i + 1) else nI i)
    else if n = 0 then 0 else -4
theorem neg1 {p : Nat} (h : p < 100) : (-1 - nI p : Int32) < 0 ∧ -1 - (-1 - nI p : Int32) = nI p := by
  have h1 : ∀ p : Fin 100, (-1 - nI p.val : Int32) < 0 ∧ -1 - (-1 - nI p.val : Int32) = nI p.val := by decide +kernel
  exact h1 ⟨p, h⟩
theorem neg2 {p : Nat} : (-2 - nI p : Int32) = -1 - nI (p + 1) := by
  rw [← nI_1]
  grind
