def wlk (p : Asg) (t : Nat) : Nat → Option Nat → Bool
  | 0, _ => false
  | _ + 1, none => false
  | k + 1, some x => if x = t then true else wlk p t k (p x)
theorem wlk_ret {p : Asg} {t : Nat} : ∀ (k x : Nat), wlk p t k (some x) = retB p t k x
  | 0, _ => rfl
  | k + 1, x => by
    rw [wlk, retB]
    by_cases h : x = t
    · rw [if_pos h, if_pos h]
    · rw [if_neg h, if_neg h]
      cases hp : p x with
      | none => cases k <;> rfl
      | some y => exact wlk_ret k y
def okT (p : Asg) (L t : Nat) : Bool := match p t with
  | none => true
  | some g => retB p t L g
def okN (p : Asg) (L : Nat) : Nat → Bool
  | 0 => true
  | t + 1 => okN p L t && okT p L t
theorem okN_F {p : Asg} {L t : Nat} (h : okN p L t = false) : ∀ k, okN p L (t + k) = false
  | 0 => h
  | k + 1 => by
    rw [← Nat.add_assoc, okN, okN_F h k]
    rfl
theorem okN_iff {p : Asg} {L : Nat} : ∀ n, okN p L n = true ↔ ∀ t, t < n → okT p L t = true
  | 0 => by simp [okN]
  | n + 1 => by
    rw [okN, Bool.and_eq_true, okN_iff n]
    constructor
    · rintro ⟨h1, h2⟩ t ht
      by_cases h : t = n
      · subst h; exact h2
      · exact h1 t (by omega)
    · intro h
      exact ⟨fun t ht => h t (by omega), h n (by omega)⟩
def FJ (can : Gr) (n : Nat) (p : Asg) (t : Nat) : Prop := (∀ u g, u < t → p u = some g → g < n ∧ can u g = true) ∧ ∀ u v g, u < t → v < t → p u = some g → p v = some g → u = v
theorem FJ_some {can : Gr} {n t c : Nat} {p : Asg} (hF : FJ can n p t) (hc : c < n) (hcan : can t c = true) (hfree : ∀ j, j < t → ¬ p j = some c) : FJ can n (setA p t (some c)) (t + 1) := by
  obtain ⟨h1, h2⟩ := hF
  refine ⟨fun u g hu hg => ?_, fun u v g hu hv h4 h5 => ?_⟩
  · by_cases hut : u = t
    · subst hut
      rw [setA_at] at hg
      cases hg
      exact ⟨hc, hcan⟩
    · rw [setA_ne hut] at hg
      exact h1 u g (by omega) hg
  · by_cases hut : u = t
    · by_cases hvt : v = t
      · omega
      · subst hut
        rw [setA_at] at h4
        cases h4
        rw [setA_ne hvt] at h5
        exact absurd h5 (hfree v (by omega))
    · by_cases hvt : v = t
      · subst hvt
        rw [setA_at] at h5
        cases h5
        rw [setA_ne hut] at h4
        exact absurd h4 (hfree u (by omega))
      · rw [setA_ne hut] at h4
        rw [setA_ne hvt] at h5
        exact h2 u v g (by omega) (by omega) h4 h5
theorem FJ_none {can : Gr} {n t : Nat} {p : Asg} (hF : FJ can n p t) : FJ can n (setA p t none) (t + 1) := by
  obtain ⟨h1, h2⟩ := hF
  refine ⟨fun u g hu hg => ?_, fun u v g hu hv h4 h5 => ?_⟩
  · by_cases hut : u = t
    · subst hut
      rw [setA_at] at hg
      cases hg
    · rw [setA_ne hut] at hg
      exact h1 u g (by omega) hg
  · by_cases hut : u = t
    · subst hut
      rw [setA_at] at h4
      cases h4
    · by_cases hvt : v = t
      · subst hvt
        rw [setA_at] at h5
        cases h5
      · rw [setA_ne hut] at h4
        rw [setA_ne hvt] at h5
        exact h2 u v g (by omega) (by omega) h4 h5
theorem FJ_Val {can : Gr} {n L : Nat} {p : Asg} (hF : FJ can n p n) : Val can n L p ↔ okN p L n = true := by
  rw [okN_iff]
  constructor
  · intro h t ht
    unfold okT
    cases hp : p t with
    | none => rfl
    | some g => exact (h.1 t g ht hp).2.2
  · intro h
    refine ⟨fun t g ht hg => ?_, hF.2⟩
    have := h t ht
    unfold okT at this
    rw [hg] at this
    exact ⟨(hF.1 t g ht hg).1, (hF.1 t g ht hg).2, this⟩
def LSt (M0 M : Mem) (n : Nat) (p : Asg) (t : Nat) (s : Sst) : Prop := (∀ c, c ≠ 84 → c ≠ 90 → c ≠ 91 → c ≠ 92 → M c = M0 c) ∧ (∀ i, i ≠ 11 → M 84 i = M0 84 i) ∧ (∀ j, j < t → M 91 j = gI (-4) (p j)) ∧ (∀ j, t ≤ j → j < 7 → M 91 j = -4) ∧ M 84 11 = nI s.1 - 1 ∧ (∀ j, j < n → M 90 j = gI (-4) (s.2 j)) ∧ 0 < s.1 ∧ s.1 ≤ 8
theorem LSt_92 {M0 M : Mem} {n t : Nat} {p : Asg} {s : Sst} {i : Nat} {x : Int32} (h : LSt M0 M n p t s) : LSt M0 (updM M 92 i x) n p t s := by
  obtain ⟨a, b, c, d, e, f, g, z⟩ := h
  exact ⟨fun k h1 h2 h3 h4 => by rw [updM_ne h4]; exact a k h1 h2 h3 h4, fun i hi => by rw [updM_ne (by decide)]; exact b i hi, fun j hj => by rw [updM_ne (by decide)]; exact c j hj, fun j hj h7 => by rw [updM_ne (by decide)]; exact d j hj h7, by rw [updM_ne (by decide)]; exact e, fun j hj => by rw [updM_ne (by decide)]; exact f j hj, g, z⟩
theorem LSt_91 {M0 M : Mem} {n t : Nat} {p : Asg} {s : Sst} {o : Option Nat} (h : LSt M0 M n p t s) : LSt M0 (updM M 91 t (gI (-4) o)) n (setA p t o) (t + 1) s := by
  obtain ⟨a, b, c, d, e, f, g, z⟩ := h
  refine ⟨fun k h1 h2 h3 h4 => by rw [updM_ne h3]; exact a k h1 h2 h3 h4, fun i hi => by rw [updM_ne (by decide)]; exact b i hi, fun j hj => ?_, fun j hj h7 => ?_, by rw [updM_ne (by decide)]; exact e, fun j hj => by rw [updM_ne (by decide)]; exact f j hj, g, z⟩
  · by_cases hjt : j = t
    · subst hjt; simp [updM, setA_at]
    · rw [setA_ne hjt, updM_at, if_neg (by omega)]
      exact c j (by omega)
  · rw [updM_at, if_neg (by omega)]
    exact d j (by omega) h7
theorem LSt_f {M0 M : Mem} {n t : Nat} {p : Asg} {s : Sst} (ht : t < 7) (h : LSt M0 M n p t s) : LSt M0 M n (setA p t none) (t + 1) s := by
  obtain ⟨a, b, c, d, e, f, g, z⟩ := h
  refine ⟨a, b, fun j hj => ?_, fun j hj h7 => d j (by omega) h7, e, f, g, z⟩
  by_cases hjt : j = t
  · subst hjt; rw [setA_at, d j (Nat.le_refl _) ht]; rfl
  · rw [setA_ne hjt]
    exact c j (by omega)
theorem LSt_b0 {M0 M : Mem} {n t : Nat} {p : Asg} {s : Sst} (h : LSt M0 M n (setA p t none) (t + 1) s) : LSt M0 M n p t s := by
  obtain ⟨a, b, c, d, e, f, g, z⟩ := h
  refine ⟨a, b, fun j hj => ?_, fun j hj h7 => ?_, e, f, g, z⟩
  · have := c j (by omega)
    rw [setA_ne (by omega)] at this
    exact this
  · by_cases hjt : j = t
    · subst hjt
      have := c j (by omega)
      rw [setA_at] at this
      exact this
    · exact d j (by omega) h7
theorem LSt_b {M0 M : Mem} {n t : Nat} {p : Asg} {s : Sst} {o : Option Nat} (h : LSt M0 M n (setA p t o) (t + 1) s) : LSt M0 (updM M 91 t (-4)) n p t s := by
  obtain ⟨a, b, c, d, e, f, g, z⟩ := h
  refine ⟨fun k h1 h2 h3 h4 => by rw [updM_ne h3]; exact a k h1 h2 h3 h4, fun i hi => by rw [updM_ne (by decide)]; exact b i hi, fun j hj => ?_, fun j hj h7 => ?_, by rw [updM_ne (by decide)]; exact e, fun j hj => by rw [updM_ne (by decide)]; exact f j hj, g, z⟩
  · have := c j (by omega)
    rw [setA_ne (by omega)] at this
    rw [updM_at, if_neg (by omega)]
    exact this
  · by_cases hjt : j = t
    · subst hjt; simp [updM]
    · rw [updM_at, if_neg (by omega)]
      exact d j (by omega) h7
theorem rowN_at {a : Row} {i : Nat} {b : Row} {j : Nat} : rowN a i b j = if j < i then a j else b j := rfl
theorem LSt_keep {M0 M : Mem} {n : Nat} {p : Asg} {s : Sst} (hn : n ≤ 7) (h : LSt M0 M n p n s) : LSt M0 (setR (updM M 84 11 (nI (cnt p n))) 90 (rowN (M 91) 7 (M 90))) n p n (cnt p n + 1, p) := by
  obtain ⟨a, b, c, d, e, f, g, z⟩ := h
  have hc := cnt_le p n
  refine ⟨fun k h1 h2 h3 h4 => by rw [row_ne h2, updM_ne h1]; exact a k h1 h2 h3 h4, fun i hi => by rw [row_ne (by decide), updM_at, if_neg (by omega)]; exact b i hi, fun j hj => by rw [row_ne (by decide), updM_ne (by decide)]; exact c j hj, fun j hj h7 => by rw [row_ne (by decide), updM_ne (by decide)]; exact d j hj h7, ?_, fun j hj => ?_, Nat.succ_pos _, by show cnt p n + 1 ≤ 8; omega⟩
  · rw [row_ne (by decide), updM_at, if_pos ⟨rfl, rfl⟩]
    show nI (cnt p n) = nI (cnt p n + 1) - 1
    rw [← nI_1]
    exact (Int32.add_sub_cancel _ _).symm
  · rw [row_at, rowN_at, if_pos (by omega)]
    exact c j hj
theorem leaf_s {can : Gr} {n L : Nat} {p : Asg} {s : Sst} (h : Val can n L p → cnt p n < s.1) : leafD can n L p s = s := by
  unfold leafD
  refine @if_neg _ (Classical.propDecidable _) (fun q => ?_) _ _ _
  have := h q.1
  omega
theorem leaf_n {can : Gr} {n L : Nat} {p : Asg} {s : Sst} (h : Val can n L p) (h2 : s.1 ≤ cnt p n) : leafD can n L p s = (cnt p n + 1, p) := by
  unfold leafD
  exact @if_pos _ (Classical.propDecidable _) ⟨h, h2⟩ _ _ _
/-- what is left of a level changes nothing when no way beyond is better -/
theorem lev_same {can : Gr} {n L k t : Nat} {p : Asg} {s : Sst} (ht : t + 1 + k = n) (h : cnt p t + n - t < s.1) (m c : Nat) : DF (fun c s => DD can n L k (setA p t (opt n c)) s) m c s = s := by
  refine DF_same _ _ _ _ (fun x _ _ => DD_same k _ (by omega) (fun B hB _ => ?_))
  have h1 := cnt_mono B (n - t) t
  have h2 : cnt B t = cnt p t := cnt_congr t (fun j hj => by rw [hB j (by omega), setA_ne (by omega)])
  rw [show t + (n - t) = n by omega] at h1
  omega
/-- a choice that is not free or not allowed brings nothing -/
theorem lev_skip {can : Gr} {n L k t c : Nat} {p : Asg} {s : Sst} (ht : t + 1 + k = n) (hc : c < n) (h : can t c = false ∨ ∃ j, j < t ∧ p j = some c) : DD can n L k (setA p t (opt n c)) s = s := by
  refine DD_same k _ (by omega) (fun B hB hV => ?_)
  exfalso
  have hBt : B t = some c := by
    rw [hB t (by omega), setA_at]
    exact if_pos hc
  rcases h with h | ⟨j, hj, hp⟩
  · have := (hV.1 t c (by omega) hBt).2.1
    rw [h] at this
    cases this
  · have hBj : B j = some c := by rw [hB j (by omega), setA_ne (by omega)]; exact hp
    have := hV.2 t j c (by omega) (by omega) hBt hBj
    omega
theorem nI_m1 (a : Nat) : nI (a + 1) + -1 = nI a := by
  rw [← nI_1, Int32.add_assoc, show (1 : Int32) + -1 = 0 by decide, Int32.add_zero]
theorem nI_diff {a b c : Nat} (h : c ≤ a + b) : nI a + nI b - nI c = nI (a + b - c) := by
  have e : a + b = (a + b - c) + c := by omega
  rw [nI_add, e, ← nI_add, ← e]
  exact Int32.add_sub_cancel _ _
def gvB (gv : Int32) (n : Nat) (p : Asg) (t : Nat) : Prop := ∀ c, c < n → (bitI gv c = true ↔ ∃ j, j < t ∧ p j = some c)
theorem gvB_some {gv : Int32} {n t c : Nat} {p : Asg} (h : gvB gv n p t) (hc : c < 31) (hn : n ≤ 7) : gvB (gv ||| 1 <<< (nI c &&& 31)) n (setA p t (some c)) (t + 1) := by
  intro x hx
  rw [bit_or, bit_one hc (by omega), Bool.or_eq_true, h x hx, decide_eq_true_eq]
  constructor
  · rintro (⟨j, hj, hp⟩ | rfl)
    · exact ⟨j, by omega, by rw [setA_ne (by omega)]; exact hp⟩
    · exact ⟨t, by omega, setA_at⟩
  · rintro ⟨j, hj, hp⟩
    by_cases hjt : j = t
    · subst hjt
      rw [setA_at] at hp
      cases hp
      exact Or.inr rfl
    · rw [setA_ne hjt] at hp
      exact Or.inl ⟨j, by omega, hp⟩
theorem gvB_none {gv : Int32} {n t : Nat} {p : Asg} (h : gvB gv n p t) : gvB gv n (setA p t none) (t + 1) := by
  intro x hx
  rw [h x hx]
  constructor
  · rintro ⟨j, hj, hp⟩
    exact ⟨j, by omega, by rw [setA_ne (by omega)]; exact hp⟩
  · rintro ⟨j, hj, hp⟩
    by_cases hjt : j = t
    · subst hjt
      rw [setA_at] at hp
      cases hp
    · rw [setA_ne hjt] at hp
      exact ⟨j, by omega, hp⟩
theorem gvB_back {gv : Int32} {n t c : Nat} {p : Asg} (h : gvB gv n (setA p t (some c)) (t + 1)) (hc : c < 31) (hn : n ≤ 7) (hfree : ∀ j, j < t → ¬ p j = some c) : gvB (gv &&& (1 <<< (nI c &&& 31) ^^^ -1)) n p t := by
  intro x hx
  rw [bit_and, bit_not (by omega), bit_one hc (by omega), Bool.and_eq_true, h x hx]
  simp only [Bool.not_eq_true', decide_eq_false_iff_not]
  constructor
  · rintro ⟨⟨j, hj, hp⟩, hxc⟩
    by_cases hjt : j = t
    · subst hjt
      rw [setA_at] at hp
      cases hp
      exact absurd rfl hxc
    · rw [setA_ne hjt] at hp
      exact ⟨j, by omega, hp⟩
  · rintro ⟨j, hj, hp⟩
    refine ⟨⟨j, by omega, by rw [setA_ne (by omega)]; exact hp⟩, ?_⟩
    rintro rfl
    exact hfree j hj hp
theorem gvB_back0 {gv : Int32} {n t : Nat} {p : Asg} (h : gvB gv n (setA p t none) (t + 1)) : gvB gv n p t := by
  intro x hx
  rw [h x hx]
  constructor
  · rintro ⟨j, hj, hp⟩
    by_cases hjt : j = t
    · subst hjt
      rw [setA_at] at hp
      cases hp
    · rw [setA_ne hjt] at hp
      exact ⟨j, by omega, hp⟩
  · rintro ⟨j, hj, hp⟩
    exact ⟨j, by omega, by rw [setA_ne (by omega)]; exact hp⟩
theorem b2i_nz {b : Bool} (h : ¬ b2i b = 0) : b = true := by
  cases b with
  | true => rfl
  | false => exact absurd rfl h
