theorem sub_next : ∀ (k o s q : Nat), o < 2 ^ k → s &&& o = s → q < s → q &&& o = q → q ≤ ((s - 1) &&& o)
  | 0, o, s, q, ho, hs, hq, _ => by
    have : o = 0 := by omega
    subst this
    rw [Nat.and_zero] at hs
    omega
  | k + 1, o, s, q, ho, hs, hq, hqo => by
    have h1 := congrArg (fun x => x / 2) hs
    have h2 := congrArg (fun x => x / 2) hqo
    have h3 : ((s - 1) &&& o) / 2 = ((s - 1) / 2 &&& o / 2) := Nat.and_div_two
    have h4 : ((s - 1) &&& o) % 2 = 1 ↔ (s - 1) % 2 = 1 ∧ o % 2 = 1 := Nat.and_mod_two_eq_one
    have h5 : (q &&& o) % 2 = 1 ↔ q % 2 = 1 ∧ o % 2 = 1 := Nat.and_mod_two_eq_one
    rw [hqo] at h5
    simp only [Nat.and_div_two] at h1 h2
    generalize hw : (s - 1) &&& o = w at *
    by_cases hs2 : s % 2 = 1
    · have e : (s - 1) / 2 = s / 2 := by omega
      rw [e, h1] at h3
      omega
    · have e : (s - 1) / 2 = s / 2 - 1 := by omega
      rw [e] at h3
      have ih := sub_next k (o / 2) (s / 2) (q / 2) (by rw [Nat.pow_succ] at ho; omega) h1 (by omega) h2
      rw [← h3] at ih
      omega
theorem mcL_iff {C B : Row} {l o : Nat} (ho : o < 128) : ∀ (k s : Nat), s < k → s < 128 → s &&& o = s → (mcL C B l o k s = true ↔ ∃ q, 0 < q ∧ q ≤ s ∧ q &&& o = q ∧ ¬ C (l ||| q) = 0 ∧ ¬ B (o ^^^ q) = 0)
  | 0, s, h, _, _ => by omega
  | k + 1, s, h, h7, hso => by
    rw [mcL]
    by_cases h0 : s = 0
    · rw [if_pos h0]
      constructor
      · intro q; cases q
      · rintro ⟨q, h1, h2, _⟩
        omega
    · rw [if_neg h0]
      by_cases hc : ¬ C (l ||| s) = 0 ∧ ¬ B (o ^^^ s) = 0
      · rw [if_pos hc]
        exact ⟨fun _ => ⟨s, by omega, Nat.le_refl _, hso, hc⟩, fun _ => rfl⟩
      · rw [if_neg hc]
        have h3 := and_sub (s := s) (o := o) h0
        have h4 : ((s - 1) &&& o) &&& o = (s - 1) &&& o := by rw [Nat.and_assoc, Nat.and_self]
        rw [mcL_iff ho k _ (by omega) (by omega) h4]
        constructor
        · rintro ⟨q, h1, h2, r⟩
          exact ⟨q, h1, by omega, r⟩
        · rintro ⟨q, h1, h2, h5, r⟩
          have hne : q ≠ s := by
            rintro rfl
            exact hc r
          exact ⟨q, h1, sub_next 7 o s q ho hso (by omega) h5, h5, r⟩
def cb (x : Nat) : Nat → Nat
  | 0 => 0
  | k + 1 => cb x k + (if x.testBit k = true then 1 else 0)
theorem bc_cb {x : Nat} (h : x < 128) : bc (nI x) = nI (cb x 7) ∧ cb x 7 ≤ 7 := by
  have h1 : ∀ x : Fin 128, bc (nI x.val) = nI (cb x.val 7) ∧ cb x.val 7 ≤ 7 := by decide +kernel
  exact h1 ⟨x, h⟩
theorem cb_sb {x c : Nat} (hx : x < 128) (hc : c < 7) (h : x.testBit c = false) : cb (sb x c) 7 = cb x 7 + 1 := by
  have h1 : ∀ (x : Fin 128) (c : Fin 7), x.val.testBit c.val = false → cb (sb x.val c.val) 7 = cb x.val 7 + 1 := by decide +kernel
  exact h1 ⟨x, hx⟩ ⟨c, hc⟩ h
theorem cb_one {c : Nat} (hc : c < 7) : cb (2 ^ c) 7 = 1 := by
  have h1 : ∀ (c : Fin 7), cb (2 ^ c.val) 7 = 1 := by decide +kernel
  exact h1 ⟨c, hc⟩
theorem lo_in {x : Nat} (hx : x < 128) (h0 : x ≠ 0) : x.testBit (lo x) = true := by
  have h1 : ∀ (x : Fin 128), x.val ≠ 0 → x.val.testBit (lo x.val) = true := by decide +kernel
  exact h1 ⟨x, hx⟩ h0
theorem lo_least {x j : Nat} (hx : x < 128) (h : x.testBit j = true) : lo x ≤ j ∧ j < 7 := by
  have h2 : j < 7 := by
    apply Classical.byContradiction
    intro hj
    have := Nat.testBit_lt_two_pow (x := x) (i := j) (Nat.lt_of_lt_of_le hx (Nat.pow_le_pow_right (n := 2) (by decide) (show 7 ≤ j by omega)))
    rw [this] at h
    cases h
  have h1 : ∀ (x : Fin 128) (j : Fin 7), x.val.testBit j.val = true → lo x.val ≤ j.val := by decide +kernel
  exact ⟨h1 ⟨x, hx⟩ ⟨j, h2⟩ h, h2⟩
theorem lo_eq {x i : Nat} (hx : x < 128) (h : x.testBit i = true) (h2 : ∀ j, x.testBit j = true → i ≤ j) : lo x = i := by
  have h0 : x ≠ 0 := by
    rintro rfl
    simp at h
  have h3 := h2 _ (lo_in hx h0)
  have h4 := (lo_least hx h).1
  omega
theorem others {x : Nat} (hx : x < 128) (h0 : x ≠ 0) : x ^^^ (x &&& (x - 1)) = 2 ^ lo x ∧ ∀ j, (x &&& (x - 1)).testBit j = (x.testBit j && decide (j ≠ lo x)) := by
  have h1 : ∀ (x : Fin 128), x.val ≠ 0 → x.val ^^^ (x.val &&& (x.val - 1)) = 2 ^ lo x.val ∧ (x.val &&& (x.val - 1)) ^^^ 2 ^ lo x.val = x.val := by decide +kernel
  obtain ⟨a, b⟩ := h1 ⟨x, hx⟩ h0
  have a' : x ^^^ (x &&& (x - 1)) = 2 ^ lo x := a
  have b' : (x &&& (x - 1)) ^^^ 2 ^ lo x = x := b
  refine ⟨a', fun j => ?_⟩
  have hl := lo_in hx h0
  have h3 := congrArg (fun y => y.testBit j) b'
  simp only [Nat.testBit_xor, Nat.testBit_two_pow] at h3
  generalize x &&& (x - 1) = y at *
  by_cases hj : j = lo x
  · subst hj
    rw [hl] at h3 ⊢
    simp at h3
    simp [h3]
  · have : ¬ lo x = j := fun q => hj q.symm
    simp [this] at h3
    simp [hj, h3]
def VC (can : Gr) (n L : Nat) (p : Asg) : Prop := (∀ t g, t < n → p t = some g → g < n ∧ can t g = true ∧ (∃ y, p g = some y) ∧ ∃ j, j < L ∧ itF p j g = t) ∧ ∀ t u g, t < n → u < n → p t = some g → p u = some g → t = u
theorem ret_it {p : Asg} {t : Nat} : ∀ (k x : Nat), retB p t k x = true → ∃ j, j < k ∧ itF p j x = t
  | 0, _, h => by rw [retB] at h; cases h
  | k + 1, x, h => by
    rw [retB] at h
    by_cases hx : x = t
    · exact ⟨0, by omega, hx⟩
    · rw [if_neg hx] at h
      cases hp : p x with
      | none => rw [hp] at h; cases h
      | some y =>
        rw [hp] at h
        obtain ⟨j, h1, h2⟩ := ret_it k y h
        exact ⟨j + 1, by omega, by rw [itF, fw_of hp]; exact h2⟩
theorem Val_VC {can : Gr} {n L : Nat} {p : Asg} : Val can n L p ↔ VC can n L p := by
  constructor
  · rintro ⟨h1, h2⟩
    refine ⟨fun t g ht hg => ?_, h2⟩
    obtain ⟨a, b, c⟩ := h1 t g ht hg
    refine ⟨a, b, ?_, ret_it L g c⟩
    cases L with
    | zero => rw [retB] at c; cases c
    | succ L =>
      rw [retB] at c
      by_cases hgt : g = t
      · exact ⟨g, by rw [hgt]; rw [hgt] at hg; exact hg⟩
      · rw [if_neg hgt] at c
        cases hp : p g with
        | none => rw [hp] at c; cases c
        | some y => exact ⟨y, rfl⟩
  · rintro ⟨h1, h2⟩
    have hc : ∀ x, Sp p n x → Sp p n (fw p x) := by
      rintro x ⟨hx, y, hy⟩
      rw [fw_of hy]
      obtain ⟨a, _, c, _⟩ := h1 x y hx hy
      exact ⟨a, c⟩
    refine ⟨fun t g ht hg => ?_, h2⟩
    obtain ⟨a, b, c, j, hj, he⟩ := h1 t g ht hg
    exact ⟨a, b, ret_of hc L g j ⟨a, c⟩ hj he⟩
theorem itF_congr {p q : Asg} {S : Nat → Prop} (hS : ∀ x, S x → S (fw p x)) (h : ∀ x, S x → p x = q x) : ∀ (k x : Nat), S x → itF p k x = itF q k x
  | 0, _, _ => rfl
  | k + 1, x, hx => by
    have e : fw q x = fw p x := by unfold fw; rw [h x hx]
    rw [itF, itF, e]
    exact itF_congr hS h k _ (hS x hx)
def Sup (p : Asg) (n x : Nat) : Prop := ∀ t, t < n → (x.testBit t = true ↔ ∃ g, p t = some g)
def Bq (can : Gr) (n L x : Nat) : Prop := ∃ p, VC can n L p ∧ Sup p n x
def Cq (can : Gr) (n L x : Nat) : Prop := 2 ≤ cb x 7 ∧ cb x 7 ≤ L ∧ ∃ l, Ch can n x l ∧ can l (lo x) = true
theorem tb_lt {x n t : Nat} (hx : x < 2 ^ n) (h : x.testBit t = true) : t < n := by
  apply Classical.byContradiction
  intro ht
  have := Nat.testBit_lt_two_pow (x := x) (i := t) (Nat.lt_of_lt_of_le hx (Nat.pow_le_pow_right (n := 2) (by decide) (show n ≤ t by omega)))
  rw [this] at h
  cases h
