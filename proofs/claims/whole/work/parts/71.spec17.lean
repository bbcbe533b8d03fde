def wlk (p : Asg) (t : Nat) : Nat → Option Nat → Bool
  | 0, _ => false
  | _ + 1, none => false
  | k + 1, some x => if x = t then true else wlk p t k (p x)
theorem wlk_ret {p : Asg} {t : Nat} : ∀ (k x : Nat), wlk p t k (some x) = retB p t k x
  | 0, _ => rfl
  | k + 1, x => by
    rw [wlk, retB]
    by_cases h : x = t
    · rw [if_pos h, if_pos h]
    · rw [if_neg h, if_neg h]
      cases hp : p x with
      | none => cases k <;> rfl
      | some y => exact wlk_ret k y
def okT (p : Asg) (L t : Nat) : Bool := match p t with
  | none => true
  | some g => retB p t L g
def okN (p : Asg) (L : Nat) : Nat → Bool
  | 0 => true
  | t + 1 => okN p L t && okT p L t
theorem okN_F {p : Asg} {L t : Nat} (h : okN p L t = false) : ∀ k, okN p L (t + k) = false
  | 0 => h
  | k + 1 => by
    rw [← Nat.add_assoc, okN, okN_F h k]
    rfl
theorem okN_iff {p : Asg} {L : Nat} : ∀ n, okN p L n = true ↔ ∀ t, t < n → okT p L t = true
  | 0 => by simp [okN]
  | n + 1 => by
    rw [okN, Bool.and_eq_true, okN_iff n]
    constructor
    · rintro ⟨h1, h2⟩ t ht
      by_cases h : t = n
      · subst h; exact h2
      · exact h1 t (by omega)
    · intro h
      exact ⟨fun t ht => h t (by omega), h n (by omega)⟩
def FJ (can : Gr) (n : Nat) (p : Asg) (t : Nat) : Prop := (∀ u g, u < t → p u = some g → g < n ∧ can u g = true) ∧ ∀ u v g, u < t → v < t → p u = some g → p v = some g → u = v
theorem FJ_some {can : Gr} {n t c : Nat} {p : Asg} (hF : FJ can n p t) (hc : c < n) (hcan : can t c = true) (hfree : ∀ j, j < t → ¬ p j = some c) : FJ can n (setA p t (some c)) (t + 1) := by
  obtain ⟨h1, h2⟩ := hF
  refine ⟨fun u g hu hg => ?_, fun u v g hu hv h4 h5 => ?_⟩
  · by_cases hut : u = t
    · subst hut
      rw [setA_at] at hg
      cases hg
      exact ⟨hc, hcan⟩
    · rw [setA_ne hut] at hg
      exact h1 u g (by omega) hg
  · by_cases hut : u = t
    · by_cases hvt : v = t
      · omega
      · subst hut
        rw [setA_at] at h4
        cases h4
        rw [setA_ne hvt] at h5
        exact absurd h5 (hfree v (by omega))
    · by_cases hvt : v = t
      · subst hvt
        rw [setA_at] at h5
        cases h5
        rw [setA_ne hut] at h4
        exact absurd h4 (hfree u (by omega))
      · rw [setA_ne hut] at h4
        rw [setA_ne hvt] at h5
        exact h2 u v g (by omega) (by omega) h4 h5
theorem FJ_none {can : Gr} {n t : Nat} {p : Asg} (hF : FJ can n p t) : FJ can n (setA p t none) (t + 1) := by
  obtain ⟨h1, h2⟩ := hF
  refine ⟨fun u g hu hg => ?_, fun u v g hu hv h4 h5 => ?_⟩
  · by_cases hut : u = t
    · subst hut
      rw [setA_at] at hg
      cases hg
    · rw [setA_ne hut] at hg
      exact h1 u g (by omega) hg
  · by_cases hut : u = t
    · subst hut
      rw [setA_at] at h4
      cases h4
    · by_cases hvt : v = t
      · subst hvt
        rw [setA_at] at h5
        cases h5
      · rw [setA_ne hut] at h4
        rw [setA_ne hvt] at h5
        exact h2 u v g (by omega) (by omega) h4 h5
theorem FJ_Val {can : Gr} {n L : Nat} {p : Asg} (hF : FJ can n p n) : Val can n L p ↔ okN p L n = true := by
  rw [okN_iff]
  constructor
  · intro h t ht
    unfold okT
    cases hp : p t with
    | none => rfl
    | some g => exact (h.1 t g ht hp).2.2
  · intro h
    refine ⟨fun t g ht hg => ?_, hF.2⟩
    have := h t ht
    unfold okT at this
    rw [hg] at this
    exact ⟨(hF.1 t g ht hg).1, (hF.1 t g ht hg).2, this⟩
def LS (M0 M : Mem) (n : Nat) (p : Asg) (t : Nat) (s : Sst) : Prop := (∀ c, c ≠ 84 → c ≠ 90 → c ≠ 91 → c ≠ 92 → M c = M0 c) ∧ (∀ i, i ≠ 11 → M 84 i = M0 84 i) ∧ (∀ j, j < t → M 91 j = gI (-4) (p j)) ∧ (∀ j, t < j → j < 7 → M 91 j = -4) ∧ M 84 11 = nI s.1 - 1 ∧ (∀ j, j < n → M 90 j = gI (-4) (s.2 j)) ∧ 0 < s.1 ∧ s.1 ≤ 8
def gvB (gv : Int32) (n : Nat) (p : Asg) (t : Nat) : Prop := ∀ c, c < n → (bitI gv c = true ↔ ∃ j, j < t ∧ p j = some c)
theorem gvB_some {gv : Int32} {n t c : Nat} {p : Asg} (h : gvB gv n p t) (hc : c < 31) (hn : n ≤ 7) : gvB (gv ||| 1 <<< (nI c &&& 31)) n (setA p t (some c)) (t + 1) := by
  intro x hx
  rw [bit_or, bit_one hc (by omega), Bool.or_eq_true, h x hx, decide_eq_true_eq]
  constructor
  · rintro (⟨j, hj, hp⟩ | rfl)
    · exact ⟨j, by omega, by rw [setA_ne (by omega)]; exact hp⟩
    · exact ⟨t, by omega, setA_at⟩
  · rintro ⟨j, hj, hp⟩
    by_cases hjt : j = t
    · subst hjt
      rw [setA_at] at hp
      cases hp
      exact Or.inr rfl
    · rw [setA_ne hjt] at hp
      exact Or.inl ⟨j, by omega, hp⟩
theorem gvB_none {gv : Int32} {n t : Nat} {p : Asg} (h : gvB gv n p t) : gvB gv n (setA p t none) (t + 1) := by
  intro x hx
  rw [h x hx]
  constructor
  · rintro ⟨j, hj, hp⟩
    exact ⟨j, by omega, by rw [setA_ne (by omega)]; exact hp⟩
  · rintro ⟨j, hj, hp⟩
    by_cases hjt : j = t
    · subst hjt
      rw [setA_at] at hp
      cases hp
    · rw [setA_ne hjt] at hp
      exact ⟨j, by omega, hp⟩
theorem gvB_back {gv : Int32} {n t c : Nat} {p : Asg} (h : gvB gv n (setA p t (some c)) (t + 1)) (hc : c < 31) (hn : n ≤ 7) (hfree : ∀ j, j < t → ¬ p j = some c) : gvB (gv &&& (1 <<< (nI c &&& 31) ^^^ -1)) n p t := by
  intro x hx
  rw [bit_and, bit_not (by omega), bit_one hc (by omega), Bool.and_eq_true, h x hx]
  simp only [Bool.not_eq_true', decide_eq_false_iff_not]
  constructor
  · rintro ⟨⟨j, hj, hp⟩, hxc⟩
    by_cases hjt : j = t
    · subst hjt
      rw [setA_at] at hp
      cases hp
      exact absurd rfl hxc
    · rw [setA_ne hjt] at hp
      exact ⟨j, by omega, hp⟩
  · rintro ⟨j, hj, hp⟩
    refine ⟨⟨j, by omega, by rw [setA_ne (by omega)]; exact hp⟩, ?_⟩
    rintro rfl
    exact hfree j hj hp
theorem gvB_back0 {gv : Int32} {n t : Nat} {p : Asg} (h : gvB gv n (setA p t none) (t + 1)) : gvB gv n p t := by
  intro x hx
  rw [h x hx]
  constructor
  · rintro ⟨j, hj, hp⟩
    by_cases hjt : j = t
    · subst hjt
      rw [setA_at] at hp
      cases hp
    · rw [setA_ne hjt] at hp
      exact ⟨j, by omega, hp⟩
  · rintro ⟨j, hj, hp⟩
    exact ⟨j, by omega, by rw [setA_ne (by omega)]; exact hp⟩
