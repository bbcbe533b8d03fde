/-- the pad: its length and signs -/
def Pad (P : Row) (n : Nat) : Prop := n ≤ 60 ∧ ∀ j, j < n → 33 ≤ P j ∧ P j ≤ 126
def PadC (M : Mem) (P : Row) (n : Nat) : Prop := M 73 0 = nI n ∧ ∀ j, j < n → M 74 j = P j
def chF (P : Row) (n j : Nat) : Int32 := if j < n then P j else 0
theorem code_in {x : Int32} (h : 33 ≤ x ∧ x ≤ 126) : ∃ c, c < 127 ∧ x = nI c := by
  have h0 : ¬ x < 0 := fun q => absurd (Int32.lt_of_le_of_lt h.1 q) (by decide)
  obtain ⟨j, hj, rfl⟩ := nI_of h0
  exact ⟨j, by have := (nI_leI (a := j) (b := 126) (by omega) (by decide)).mp h.2; omega, rfl⟩
theorem code_nar {x : Int32} (h : 33 ≤ x ∧ x ≤ 126) : narrow .char (.int x) = .int x ∧ vp_nar .char x = x ∧ (x.toUInt32 % 65536).toInt32 = x := by
  obtain ⟨c, hc, rfl⟩ := code_in h
  have h1 : ∀ c : Fin 127, (nI c.val).toUInt32.toUInt16.toUInt32.toInt32 = nI c.val ∧ ((nI c.val).toUInt32 % 65536).toInt32 = nI c.val := by decide +kernel
  have h2 := h1 ⟨c, hc⟩
  refine ⟨?_, ?_, h2.2⟩
  · show Value.int _ = _
    rw [h2.1]
  · rw [vp_nar_char]; exact h2.1
theorem ch_nar {P : Row} {n j : Nat} (hP : Pad P n) : narrow .char (.int (chF P n j)) = .int (chF P n j) := by
  unfold chF
  split
  · exact (code_nar (hP.2 j ‹_›)).1
  · rfl
theorem ltn {n i : Nat} {x : Int32} (hx : x = nI n) (hn : n ≤ 60) (h1 : i ≤ n) (c : ¬ x ≤ nI i) : i < n := by
  rcases Nat.lt_or_ge i n with q | q
  · exact q
  · exact absurd (by rw [hx]; exact nI_le q (by omega)) c
theorem eqn {n i : Nat} {x : Int32} (hx : x = nI n) (hn : n ≤ 60) (h1 : i ≤ n) (c : x ≤ nI i) : i = n := by
  rw [hx] at c
  have := (nI_leI (by omega) (by omega)).mp c
  omega
/-- the class' automaton for traders -/
def stp (st lw c : Int32) : Option (Int32 × Int32) :=
  if st = 0 ∧ 48 ≤ c ∧ c ≤ 53 then some (1, lw)
  else if st = 1 ∧ c = 62 then some (2, 48)
  else if 2 ≤ st ∧ lw ≤ c ∧ c ≤ 53 then some (3, c + 1)
  else if st = 3 ∧ c = 44 then some (0, lw)
  else none
def ftC (P : Row) (n : Nat) : Nat → Nat → Int32 → Int32 → Int32
  | 0, _, st, _ => if st = 3 then -4 else nI n
  | k + 1, i, st, lw => match stp st lw (P i) with
    | some (st', lw') => ftC P n k (i + 1) st' lw'
    | none => nI i
/-- the class' automaton for days: dd digits are due -/
def std (dd c pc : Int32) : Option Int32 :=
  if 0 < dd then (if c < 48 ∨ 54 < c ∨ (dd = 1 ∧ c = pc) then none else some (dd - 1))
  else if c = 120 then some 2
  else if c = 99 ∨ c = 100 then some dd
  else none
def fdC (P : Row) (n : Nat) : Nat → Nat → Int32 → Int32
  | 0, _, dd => if 0 < n ∧ dd = 0 then -4 else nI n
  | k + 1, i, dd => match std dd (P i) (chF P n (i - 1)) with
    | some dd' => fdC P n k (i + 1) dd'
    | none => nI i
def wbC (P : Row) (n : Nat) : Nat → Nat → Int32 → Int32
  | 0, _, w => w
  | k + 1, i, w => if P i = 44 then w else wbC P n k (i + 1) (w ||| 1 <<< ((P i - 48) &&& 31))
