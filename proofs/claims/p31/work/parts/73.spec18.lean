/-- runs to an end at some memory of which Q holds -/
def YE (n : Nat) (m : Md) (pc : Nat) (ls : List (Option Value)) (M : Mem) (Q : Mem → Prop) : Prop := ∃ M9 : Mem, Y n m pc ls [] M none M9 ∧ Q M9
/-- the reference's best -/
noncomputable def bsr (V : Row) (L : Nat) : Sst := DD (canV V) (nT V) L (nT V) (fun _ => none) (1, fun _ => none)
theorem rowN_m4 {a b : Row} : rowN (rowN (fun _ => -4) 7 a) 7 b = rowN (fun _ => -4) 7 b := by
  funext j
  simp only [rowN]
  split <;> rfl
theorem cnt0 {p : Asg} : ∀ n, cnt p n = 0 → ∀ j, j < n → p j = none
  | 0, _, j, hj => by omega
  | n + 1, h, j, hj => by
    rw [cnt] at h
    have h1 : cnt p n = 0 := by omega
    by_cases hjn : j = n
    · subst hjn
      cases hp : p j with
      | none => rfl
      | some x =>
        rw [hp] at h
        simp at h
    · exact cnt0 n h1 j (by omega)
def Rl (n : Nat) (s r : Sst) : Prop := (s.1 = r.1 ∧ ∀ j, j < n → s.2 j = r.2 j) ∨ (s.1 = 0 ∧ r.1 = 1 ∧ ∀ j, j < n → r.2 j = none)
theorem Rl_leaf {can : Gr} {n L : Nat} {p : Asg} {s r : Sst} (h : Rl n s r) : Rl n (leafD can n L p s) (leafD can n L p r) := by
  by_cases hV : Val can n L p
  · rcases h with ⟨h1, h2⟩ | ⟨h1, h2, h3⟩
    · by_cases hc : s.1 ≤ cnt p n
      · rw [leaf_n hV hc, leaf_n hV (by omega)]
        exact Or.inl ⟨rfl, fun _ _ => rfl⟩
      · rw [leaf_s (fun _ => by omega), leaf_s (fun _ => by omega)]
        exact Or.inl ⟨h1, h2⟩
    · rw [leaf_n hV (by omega)]
      by_cases hc : r.1 ≤ cnt p n
      · rw [leaf_n hV hc]
        exact Or.inl ⟨rfl, fun _ _ => rfl⟩
      · rw [leaf_s (fun _ => by omega)]
        have h0 : cnt p n = 0 := by omega
        exact Or.inl ⟨by rw [h2, h0], fun j hj => by rw [h3 j hj]; exact cnt0 n h0 j hj⟩
  · rw [leaf_s (fun q => absurd q hV), leaf_s (fun q => absurd q hV)]
    exact h
theorem Rl_DF {n : Nat} {f : Nat → Sst → Sst} (hf : ∀ c s r, Rl n s r → Rl n (f c s) (f c r)) : ∀ (m c : Nat) (s r : Sst), Rl n s r → Rl n (DF f m c s) (DF f m c r)
  | 0, _, _, _, h => h
  | m + 1, c, s, r, h => by
    rw [DF, DF]
    exact Rl_DF hf m (c + 1) _ _ (hf c s r h)
theorem Rl_DD {can : Gr} {n L : Nat} : ∀ (k : Nat) (p : Asg) (s r : Sst), Rl n s r → Rl n (DD can n L k p s) (DD can n L k p r)
  | 0, p, s, r, h => by
    rw [DD, DD]
    exact Rl_leaf h
  | k + 1, p, s, r, h => by
    rw [DD, DD]
    exact Rl_DF (f := fun c s => DD can n L k (setA p (n - (k + 1)) (opt n c)) s) (fun c s r h => Rl_DD k _ s r h) _ _ _ _ h
/-- both searches hold the same -/
theorem bst_bsr {V : Row} {L : Nat} : (bst V L).1 = (bsr V L).1 ∧ ∀ j, j < nT V → (bst V L).2 j = (bsr V L).2 j := by
  have h := Rl_DD (can := canV V) (n := nT V) (L := L) (nT V) (fun _ => none) (0, fun _ => none) (1, fun _ => none) (Or.inr ⟨rfl, rfl, fun _ _ => rfl⟩)
  rcases h with h | h
  · exact h
  · have := bst_pos (V := V) (L := L)
    unfold bst at this
    omega
theorem b2i_nz' {b : Bool} (h : b2i b ≠ 0) : b = true := b2i_nz h
