theorem std_0 {c pc : Int32} : std 0 c pc = if c = 120 then some 2 else if c = 99 ∨ c = 100 then some 0 else none := by
  unfold std
  rw [if_neg (by decide)]
theorem std_2 {c pc : Int32} : std 2 c pc = if 48 ≤ c ∧ c ≤ 54 then some 1 else none := by
  unfold std
  rw [if_pos (by decide)]
  by_cases h : 48 ≤ c ∧ c ≤ 54
  · rw [if_pos h, if_neg (fun q => ?_)]
    · rfl
    · rcases q with q | q | q
      · exact absurd h.1 (Int32.not_le.mpr q)
      · exact absurd h.2 (Int32.not_le.mpr q)
      · exact absurd q.1 (by decide)
  · rw [if_neg h, if_pos]
    rcases Classical.em (48 ≤ c) with q | q
    · exact Or.inr (Or.inl (Int32.not_le.mp (fun z => h ⟨q, z⟩)))
    · exact Or.inl (Int32.not_le.mp q)
theorem std_1 {c pc : Int32} : std 1 c pc = if (48 ≤ c ∧ c ≤ 54) ∧ ¬ c = pc then some 0 else none := by
  unfold std
  rw [if_pos (by decide)]
  by_cases h : (48 ≤ c ∧ c ≤ 54) ∧ ¬ c = pc
  · rw [if_pos h, if_neg (fun q => ?_)]
    · rfl
    · rcases q with q | q | q
      · exact absurd h.1.1 (Int32.not_le.mpr q)
      · exact absurd h.1.2 (Int32.not_le.mpr q)
      · exact h.2 q.2
  · rw [if_neg h, if_pos]
    rcases Classical.em (48 ≤ c) with q | q
    · rcases Classical.em (c ≤ 54) with z | z
      · exact Or.inr (Or.inr ⟨rfl, Classical.not_not.mp (fun y => h ⟨⟨q, z⟩, y⟩)⟩)
      · exact Or.inr (Or.inl (Int32.not_le.mp z))
    · exact Or.inl (Int32.not_le.mp q)
theorem fdC_s0 {P : Row} {n k i : Nat} : fdC P n (k + 1) i 0 = if P i = 120 then fdC P n k (i + 1) 2 else if P i = 99 ∨ P i = 100 then fdC P n k (i + 1) 0 else nI i := by
  rw [fdC, std_0]
  by_cases h : P i = 120
  · rw [if_pos h, if_pos h]
  · rw [if_neg h, if_neg h]
    by_cases h2 : P i = 99 ∨ P i = 100
    · rw [if_pos h2, if_pos h2]
    · rw [if_neg h2, if_neg h2]
theorem fdC_s2 {P : Row} {n k i : Nat} : fdC P n (k + 1) i 2 = if 48 ≤ P i ∧ P i ≤ 54 then fdC P n k (i + 1) 1 else nI i := by
  rw [fdC, std_2]
  by_cases h : 48 ≤ P i ∧ P i ≤ 54
  · rw [if_pos h, if_pos h]
  · rw [if_neg h, if_neg h]
theorem fdC_s1 {P : Row} {n k i : Nat} : fdC P n (k + 1) i 1 = if (48 ≤ P i ∧ P i ≤ 54) ∧ ¬ P i = chF P n (i - 1) then fdC P n k (i + 1) 0 else nI i := by
  rw [fdC, std_1]
  by_cases h : (48 ≤ P i ∧ P i ≤ 54) ∧ ¬ P i = chF P n (i - 1)
  · rw [if_pos h, if_pos h]
  · rw [if_neg h, if_neg h]
theorem fd_B {P : Row} {n : Nat} : ∀ (f i : Nat), i ≤ n → n - i < f → fdC P n (n - i) i 0 = fdR P n f i
  | 0, _, _, h => absurd h (by omega)
  | f + 1, i, hi, hf => by
    rw [fdR]
    by_cases hin : i < n
    · rw [if_pos hin, show n - i = (n - (i + 1)) + 1 by omega, fdC_s0]
      by_cases hx : P i = 120
      · rw [if_pos hx, if_pos hx]
        by_cases h1 : i + 1 < n
        · have e1 : chF P n (i + 1) = P (i + 1) := if_pos h1
          rw [e1, show n - (i + 1) = (n - (i + 2)) + 1 by omega, fdC_s2]
          by_cases d1 : 48 ≤ P (i + 1) ∧ P (i + 1) ≤ 54
          · rw [if_pos d1, if_neg (fun q => q d1)]
            by_cases h2 : i + 2 < n
            · have e2 : chF P n (i + 2) = P (i + 2) := if_pos h2
              rw [e2, show n - (i + 2) = (n - (i + 3)) + 1 by omega, fdC_s1, show i + 1 + 1 - 1 = i + 1 from rfl, e1]
              by_cases d2 : (48 ≤ P (i + 2) ∧ P (i + 2) ≤ 54) ∧ ¬ P (i + 2) = P (i + 1)
              · rw [if_pos (show (48 ≤ P (i + 1 + 1) ∧ P (i + 1 + 1) ≤ 54) ∧ ¬ P (i + 1 + 1) = P (i + 1) from d2), if_neg (fun q => q.elim (fun z => z d2.1) d2.2)]
                exact fd_B f (i + 3) (by omega) (by omega)
              · rw [if_neg (show ¬ ((48 ≤ P (i + 1 + 1) ∧ P (i + 1 + 1) ≤ 54) ∧ ¬ P (i + 1 + 1) = P (i + 1)) from d2), if_pos]
                rcases Classical.em (48 ≤ P (i + 2) ∧ P (i + 2) ≤ 54) with z | z
                · exact Or.inr (Classical.not_not.mp (fun y => d2 ⟨z, y⟩))
                · exact Or.inl z
            · have e2 : chF P n (i + 2) = 0 := if_neg h2
              rw [e2, if_pos (Or.inl (by decide)), show n - (i + 2) = 0 by omega]
              show (if 0 < n ∧ (1 : Int32) = 0 then -4 else nI n) = nI (i + 2)
              rw [if_neg (fun q => absurd q.2 (by decide)), show n = i + 2 by omega]
          · rw [if_neg d1, if_pos d1]
        · have e1 : chF P n (i + 1) = 0 := if_neg h1
          rw [e1, if_pos (by decide), show n - (i + 1) = 0 by omega]
          show (if 0 < n ∧ (2 : Int32) = 0 then -4 else nI n) = nI (i + 1)
          rw [if_neg (fun q => absurd q.2 (by decide)), show n = i + 1 by omega]
      · rw [if_neg hx, if_neg hx]
        by_cases hc : P i = 99 ∨ P i = 100
        · rw [if_pos hc, if_pos hc]
          exact fd_B f (i + 1) (by omega) (by omega)
        · rw [if_neg hc, if_neg hc]
    · rw [if_neg hin, show n - i = 0 by omega]
      show (if 0 < n ∧ (0 : Int32) = 0 then -4 else nI n) = _
      by_cases h0 : n = 0
      · rw [if_pos h0, if_neg (by omega), h0]
        rfl
      · rw [if_neg h0, if_pos ⟨by omega, rfl⟩]
theorem ft_0 {P : Row} {n : Nat} : ftC P n n 0 0 48 = (ftR P n (n + 1) 0 0).1 := ft_B (n + 1) 0 0 (by omega) (by omega)
theorem fd_0 {P : Row} {n : Nat} : fdC P n n 0 0 = fdR P n (n + 1) 0 := fd_B (n + 1) 0 (by omega) (by omega)
theorem ok_fault (x : Int32) : Ok mX5_fault mX6_fault [.int x] := by
  intro M K n hI
  obtain ⟨hP, hPC, hPR⟩ := hI.2.1
  rcases toI_of (x := x) 2 (by decide) with h | ⟨w, hw, rfl⟩
  · have e0 : (0 : Int32).toInt = 0 := by decide
    have e1 : (1 : Int32).toInt = 1 := by decide
    have h0 : ¬ x = 0 := fun q => by rw [q, e0] at h; omega
    have h1 : ¬ x = 1 := fun q => by rw [q, e1] at h; omega
    exact ok_same hI (by omega) (by omega) (y_fault_d h0 h1) (r_fault_d h0 h1)
  · rcases (show w = 0 ∨ w = 1 by omega) with rfl | rfl
    · have s := y_fault_0 hP hPC
      rw [ft_0] at s
      exact ok_fs hI (by omega) (by omega) s (r_fault_0 hP hPR) FS.rf FS_16
    · have s := y_fault_1 hP hPC
      rw [fd_0] at s
      exact ok_same hI (by omega) (by omega) s (r_fault_1 hP hPR)
/-! traders out of a text -/
def addL (V : Row) : List (Int32 × Int32) → Row
  | [] => V
  | x :: l => addL (comeV V x.1 x.2) l
theorem Good_addL : ∀ (l : List (Int32 × Int32)) (V : Row), Good V → (∀ x ∈ l, okE x) → nT V + l.length ≤ 7 → Good (addL V l)
  | [], V, h, _, _ => h
  | x :: l, V, h, hx, hl => by
    rw [List.length_cons] at hl
    have hg := Good_come h (by omega) (hx x List.mem_cons_self).1 (hx x List.mem_cons_self).2
    exact Good_addL l _ hg (fun y hy => hx y (List.mem_cons_of_mem _ hy)) (by rw [(nT_come h.1 (by omega)).1]; omega)
theorem FrO_ad {M : Mem} {o m : Nat} {a b : Int32} : FrO o M (adM M o m a b) := fun c hc => by
  unfold adM mwM inc
  rw [updM_ne (by omega), updM_ne (by omega), updM_ne (by omega), updM_ne (by omega), updM_ne (by omega), updM_ne (by omega), updM_ne (by omega)]
/-- days out of a text -/
def dyO (V : Row) (x y : Int32) : Int32 := if bothB V x y = true then bartR V x.toNatClampNeg y.toNatClampNeg else -1
def dyV (V : Row) (x y : Int32) : Row := if bothB V x y = true then bartV V x.toNatClampNeg y.toNatClampNeg else V
noncomputable def dyR (P : Row) (n : Nat) : Nat → Nat → Row → Row × Option (Int32 × Nat)
  | 0, _, V => (V, none)
  | f + 1, i, V => if i < n then
      (if P i = 120 then (if dyO V (P (i + 1) - 48) (P (i + 2) - 48) = 10 then dyR P n f (i + 3) (dyV V (P (i + 1) - 48) (P (i + 2) - 48)) else (dyV V (P (i + 1) - 48) (P (i + 2) - 48), some (dyO V (P (i + 1) - 48) (P (i + 2) - 48), i)))
       else if P i = 99 then dyR P n f (i + 1) (callW V) else dyR P n f (i + 1) (passV V))
    else (V, none)
theorem Good_dyV {V : Row} (h : Good V) {x y : Int32} : Good (dyV V x y) := by
  unfold dyV
  split
  · rename_i hb
    obtain ⟨i, j, hi, hj, rfl, rfl⟩ := both_of h.1 hb
    rw [nI_clamp (n31 h.1 (Nat.le_of_lt hi)), nI_clamp (n31 h.1 (Nat.le_of_lt hj))]
    exact Good_bart h hi hj
  · exact h
theorem Good_dyR {P : Row} {n : Nat} : ∀ (f i : Nat) (V : Row), Good V → Good (dyR P n f i V).1
  | 0, _, _, h => h
  | f + 1, i, V, h => by
    rw [dyR]
    split
    · split
      · split
        · exact Good_dyR f _ _ (Good_dyV h)
        · exact Good_dyV h
      · split
        · exact Good_dyR f _ _ (Good_callW h)
        · exact Good_dyR f _ _ (Good_pass h)
    · exact h
/-- what a text of days without a fault holds at a place -/
theorem fd_at {P : Row} {n f i : Nat} (hn : n ≤ 60) (hi : i < n) (h : fdR P n (f + 1) i = -4) : (P i = 120 ∧ i + 2 < n ∧ (48 ≤ P (i + 1) ∧ P (i + 1) ≤ 54) ∧ (48 ≤ P (i + 2) ∧ P (i + 2) ≤ 54) ∧ fdR P n f (i + 3) = -4) ∨ ((P i = 99 ∨ P i = 100) ∧ fdR P n f (i + 1) = -4) := by
  rw [fdR, if_pos hi] at h
  by_cases hx : P i = 120
  · rw [if_pos hx] at h
    left
    by_cases d1 : 48 ≤ chF P n (i + 1) ∧ chF P n (i + 1) ≤ 54
    · rw [if_neg (fun q => q d1)] at h
      by_cases d2 : ¬ (48 ≤ chF P n (i + 2) ∧ chF P n (i + 2) ≤ 54) ∨ chF P n (i + 2) = chF P n (i + 1)
      · rw [if_pos d2] at h
        exact absurd h (m4_nI (by omega))
      · rw [if_neg d2] at h
        have d3 : 48 ≤ chF P n (i + 2) ∧ chF P n (i + 2) ≤ 54 := Classical.not_not.mp (fun q => d2 (Or.inl q))
        have h2 : i + 2 < n := ch_pos (lw := 48) (by decide) d3.1
        have e1 : chF P n (i + 1) = P (i + 1) := if_pos (by omega)
        have e2 : chF P n (i + 2) = P (i + 2) := if_pos h2
        rw [e1] at d1
        rw [e2] at d3
        exact ⟨hx, h2, d1, d3, h⟩
    · rw [if_pos d1] at h
      exact absurd h (m4_nI (by omega))
  · rw [if_neg hx] at h
    right
    by_cases hc : P i = 99 ∨ P i = 100
    · rw [if_pos hc] at h
      exact ⟨hc, h⟩
    · rw [if_neg hc] at h
      exact absurd h (m4_nI (by omega))
theorem dig7_ne {x : Int32} (h : 48 ≤ x ∧ x ≤ 54) : ¬ x = 99 ∧ ¬ x = 100 ∧ ¬ x = 120 := by
  have h0 : ¬ x < 0 := fun q => absurd (Int32.lt_of_le_of_lt h.1 q) (by decide)
  obtain ⟨j, hj, rfl⟩ := nI_of h0
  have b := (nI_leI (a := j) (b := 54) hj (by decide)).mp h.2
  exact ⟨fun q => absurd ((nI_eq (a := j) (b := 99) hj (by decide)).mp q) (by omega), fun q => absurd ((nI_eq (a := j) (b := 100) hj (by decide)).mp q) (by omega), fun q => absurd ((nI_eq (a := j) (b := 120) hj (by decide)).mp q) (by omega)⟩
theorem inv_gen {M M1 M2 : Mem} {K K' n n' : Nat} {V' : Row} {h' : Nat → Row} (hI : Inv2 M K n) (hC : CI M1 V' K' h') (hF : ∀ c, (21 ≤ c ∧ c ≤ 30) ∨ 84 ≤ c → M1 c = M c) (h07 : M1 0 7 = M 0 7) (hR : ∀ c, c < 84 ∨ c = 88 → M2 c = M1 c) (h845 : M2 84 5 = M1 84 5) (h85 : M2 85 = V') (h3 : M2 84 3 = nI K') (he : ∀ i, i < K' → ∀ j, j < 57 → hr (M2 87) i j = h' i j) (hh : ∀ i, i < K' → Good (h' i)) (hG : Good V') (hP : InvP M2 n') (hT : InvT M2) : Inv2 M2 K' n' := by
  have hC2 : CI M2 V' K' h' := ⟨RM_congr (fun c a b => hR c (by omega)) hC.1, HC_fr (fun c a b => hR c (by omega)) hC.2⟩
  refine ⟨⟨?_, by rw [h85]; exact hG, h3, fun i hi => Good_rc (hh i hi) (he i hi)⟩, hP, InvS_fr hI.2.2.1 (by rw [hR 0 (by omega), h07]) (by rw [h845, hF 84 (by omega)]) (by rw [hR 88 (by omega), hF 88 (by omega)]) (fun c a b => by rw [hR c (by omega), hF c (by omega)]), hT⟩
  rw [h85]
  exact ⟨hC2.1, HC_rc hC2.2 he (fun i hi => (WF_n (hh i hi).1).1)⟩
