theorem DF_val {can : Gr} {n L : Nat} {f : Nat → Sst → Sst} (hf : ∀ c s, (0 < s.1 → Val can n L s.2) → 0 < (f c s).1 → Val can n L (f c s).2) : ∀ (m c : Nat) (s : Sst), (0 < s.1 → Val can n L s.2) → 0 < (DF f m c s).1 → Val can n L (DF f m c s).2
  | 0, _, _, h => h
  | m + 1, c, s, h => by
    rw [DF]
    exact DF_val hf m (c + 1) _ (hf c s h)
theorem DD_val {can : Gr} {n L : Nat} : ∀ (k : Nat) (p : Asg) (s : Sst), (0 < s.1 → Val can n L s.2) → 0 < (DD can n L k p s).1 → Val can n L (DD can n L k p s).2
  | 0, p, s, h => by
    rw [DD]
    by_cases q : Val can n L p ∧ s.1 ≤ cnt p n
    · rw [leaf_n q.1 q.2]
      exact fun _ => q.1
    · rw [leaf_s (fun hV => by
        have : ¬ s.1 ≤ cnt p n := fun z => q ⟨hV, z⟩
        omega)]
      exact h
  | k + 1, p, s, h => by
    rw [DD]
    exact DF_val (f := fun c s => DD can n L k (setA p (n - (k + 1)) (opt n c)) s) (fun c s h => DD_val k _ s h) _ _ _ h
theorem bst_lt {V : Row} {L : Nat} : ∀ i q, i < nT V → (bst V L).2 i = some q → q < nT V := by
  intro i q hi h
  have hv : Val (canV V) (nT V) L (bst V L).2 := DD_val _ _ _ (fun h => absurd h (Nat.lt_irrefl _)) bst_pos
  exact (hv.1 i q hi h).1
noncomputable def cirG (V : Row) : Nat → Option Nat := (bst V (cirN V)).2
theorem cirG_lt {V : Row} : ∀ i q, i < nT V → cirG V i = some q → q < nT V := bst_lt
/-- the market after a call -/
noncomputable def callW (V : Row) : Row := cllV V (cirG V)
noncomputable def mstV (V : Row) (L : Nat) : Int32 := nI (bst V L).1 - 1
theorem WF_callW {V : Row} (hV : WF V) : WF (callW V) := WF_call hV cirG_lt
theorem dbV_congr {V : Row} {g h : Nat → Option Nat} : ∀ i, (∀ j, j < i → g j = h j) → dbV V g i = dbV V h i
  | 0, _ => rfl
  | i + 1, hh => by
    rw [dbV, dbV, dbV_congr i (fun j hj => hh j (by omega)), hh i (by omega)]
theorem callW_r {V : Row} {g : Nat → Option Nat} (h : ∀ j, j < nT V → g j = (bsr V (cirN V)).2 j) : cllV V g = callW V := by
  unfold callW cllV
  rw [dbV_congr (nT V) (fun j hj => (h j hj).trans (bst_bsr.2 j hj).symm)]
  rfl
