theorem rec_85 {M : Mem} {K : Nat} : recM M K 85 = M 85 := by unfold recM; rw [updM_ne (by decide), row_ne (by decide)]
theorem rec_87 {M : Mem} {K : Nat} : recM M K 87 = recH M K := by unfold recM; rw [updM_ne (by decide), row_at]
theorem rec_ne {M : Mem} {K c : Nat} (h : c ≠ 84) (h2 : c ≠ 87) : recM M K c = M c := by unfold recM; rw [updM_ne h, row_ne h2]
theorem rec_84 {M : Mem} {K i : Nat} : recM M K 84 i = if i = 3 then nI (recK K) else M 84 i := by
  unfold recM
  rw [updM_at, row_ne (by decide)]
  by_cases h : i = 3 <;> simp [h]
theorem RQ_of {M M2 : Mem} {V' : Row} {K : Nat} (h85 : M2 85 = V') (h : ∀ c, c ≠ 84 → c ≠ 85 → c < 90 → M2 c = recM M K c) (h84 : ∀ i, i ≠ 11 → i ≠ 16 → M2 84 i = recM M K 84 i) : RQ M M2 V' K := by
  refine ⟨h85, by rw [h 87 (by omega) (by omega) (by omega), rec_87], by rw [h84 3 (by omega) (by omega), rec_84, if_pos rfl], fun c hc => by rw [h c (by omega) (by omega) (by omega), rec_ne (by omega) (by omega)], fun i h3 h11 h16 => by rw [h84 i h11 h16, rec_84, if_neg h3]⟩
theorem RQ_set {M : Mem} {V' : Row} {K : Nat} : RQ M (setR (recM M K) 85 V') V' K := RQ_of row_at (fun c _ h2 _ => row_ne h2) (fun i _ _ => by rw [row_ne (by decide)])
theorem toI_of {x : Int32} (n : Nat) (hn : n < 2 ^ 31) : (x.toInt < 0 ∨ (n : Int) - 1 < x.toInt) ∨ ∃ k, k < n ∧ x = nI k := by
  rcases Classical.em (x < 0) with h | h
  · left; left
    have := Int32.lt_iff_toInt_lt.mp h
    simpa using this
  · obtain ⟨j, hj, rfl⟩ := nI_of h
    rcases Nat.lt_or_ge j n with q | q
    · exact Or.inr ⟨j, q, rfl⟩
    · left; right
      rw [nI_toInt hj]
      omega
theorem lt5 {i : Nat} (h1 : i ≤ 5) (c : ¬ (5 : Int32) ≤ nI i) : i < 5 := by
  rcases Nat.lt_or_ge i 5 with q | q
  · exact q
  · exact absurd (nI_le (a := 5) (b := i) q (by omega)) c
theorem eq5 {i : Nat} (h1 : i ≤ 5) (c : (5 : Int32) ≤ nI i) : i = 5 := by
  have := (nI_leI (a := 5) (b := i) (by decide) (by omega)).mp c
  omega
theorem go2_lo {V : Row} {n i k : Nat} (hk : k < 22) : go2 V n i k = V k := by
  unfold go2
  rw [if_neg (by omega)]
theorem go1_lo {V : Row} {t i k : Nat} (hk : k < 22) : go1 V t i k = V k := by
  unfold go1
  rw [if_neg (by omega)]
theorem in_bits {x : Int32} {a b : Int32} : (decide (a ≤ x) && decide (x ≤ b)) = true ↔ a ≤ x ∧ x ≤ b := by simp
theorem in_bitl {x : Int32} {a b : Int32} : (decide (a ≤ x) && decide (x < b)) = true ↔ a ≤ x ∧ x < b := by simp
