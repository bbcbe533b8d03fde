def FI (can : Gr) (n L : Nat) (p : Asg) (t : Nat) : Prop := (∀ u g, u < t → p u = some g → g < n ∧ can u g = true ∧ fitB p u L (some g) = true) ∧ (∀ u v g, u < t → v < t → p u = some g → p v = some g → u = v) ∧ ∀ u v, u < t → v < u → p v = some u → ¬ p u = none
theorem fit_congr {p q : Asg} {t : Nat} (h : ∀ j, j < t → p j = q j) : ∀ (k : Nat) (o : Option Nat), fitB p t k o = fitB q t k o
  | 0, _ => rfl
  | _ + 1, none => rfl
  | k + 1, some x => by
    rw [fitB, fitB]
    by_cases hx : x = t
    · rw [if_pos hx, if_pos hx]
    · rw [if_neg hx, if_neg hx]
      by_cases hlt : t < x
      · rw [if_pos hlt, if_pos hlt]
      · rw [if_neg hlt, if_neg hlt, h x (by omega)]
        exact fit_congr h k (q x)
theorem FI_congr {can : Gr} {n L t : Nat} {p q : Asg} (h : ∀ j, j < t → p j = q j) (hF : FI can n L p t) : FI can n L q t := by
  obtain ⟨h1, h2, h3⟩ := hF
  refine ⟨fun u g hu hg => ?_, fun u v g hu hv h4 h5 => ?_, fun u v hu hv h4 => ?_⟩
  · rw [← h u hu] at hg
    obtain ⟨a, b, c⟩ := h1 u g hu hg
    exact ⟨a, b, by rw [← fit_congr (p := p) (fun j hj => h j (by omega))]; exact c⟩
  · rw [← h u hu] at h4
    rw [← h v hv] at h5
    exact h2 u v g hu hv h4 h5
  · rw [← h v (by omega)] at h4
    rw [← h u hu]
    exact h3 u v hu hv h4
theorem FI_some {can : Gr} {n L t c : Nat} {p : Asg} (hF : FI can n L p t) (hc : c < n) (hcan : can t c = true) (hfit : fitB p t L (some c) = true) (hfree : ∀ j, j < t → ¬ p j = some c) : FI can n L (setA p t (some c)) (t + 1) := by
  obtain ⟨h1, h2, h3⟩ := FI_congr (q := setA p t (some c)) (fun j hj => (setA_ne (by omega)).symm) hF
  refine ⟨fun u g hu hg => ?_, fun u v g hu hv h4 h5 => ?_, fun u v hu hv h4 => ?_⟩
  · by_cases hut : u = t
    · subst hut
      rw [setA_at] at hg
      cases hg
      exact ⟨hc, hcan, by rw [← fit_congr (p := p) (fun j hj => (setA_ne (by omega)).symm)]; exact hfit⟩
    · exact h1 u g (by omega) hg
  · by_cases hut : u = t
    · by_cases hvt : v = t
      · omega
      · subst hut
        rw [setA_at] at h4
        cases h4
        rw [setA_ne hvt] at h5
        exact absurd h5 (hfree v (by omega))
    · by_cases hvt : v = t
      · subst hvt
        rw [setA_at] at h5
        cases h5
        rw [setA_ne hut] at h4
        exact absurd h4 (hfree u (by omega))
      · exact h2 u v g (by omega) (by omega) h4 h5
  · by_cases hut : u = t
    · subst hut
      rw [setA_at]
      intro h; cases h
    · exact h3 u v (by omega) hv h4
theorem FI_none {can : Gr} {n L t : Nat} {p : Asg} (hF : FI can n L p t) (hfree : ∀ j, j < t → ¬ p j = some t) : FI can n L (setA p t none) (t + 1) := by
  obtain ⟨h1, h2, h3⟩ := FI_congr (q := setA p t none) (fun j hj => (setA_ne (by omega)).symm) hF
  refine ⟨fun u g hu hg => ?_, fun u v g hu hv h4 h5 => ?_, fun u v hu hv h4 => ?_⟩
  · by_cases hut : u = t
    · subst hut
      rw [setA_at] at hg
      cases hg
    · exact h1 u g (by omega) hg
  · by_cases hut : u = t
    · subst hut
      rw [setA_at] at h4
      cases h4
    · by_cases hvt : v = t
      · subst hvt
        rw [setA_at] at h5
        cases h5
      · exact h2 u v g (by omega) (by omega) h4 h5
  · by_cases hut : u = t
    · subst hut
      rw [setA_ne (by omega)] at h4
      exact absurd h4 (hfree v (by omega))
    · exact h3 u v (by omega) hv h4
def fw (p : Asg) (x : Nat) : Nat := match p x with
  | some y => y
  | none => x
def itF (p : Asg) : Nat → Nat → Nat
  | 0, x => x
  | k + 1, x => itF p k (fw p x)
theorem fw_of {p : Asg} {x y : Nat} (h : p x = some y) : fw p x = y := by unfold fw; rw [h]
theorem itF_add {p : Asg} : ∀ (a b x : Nat), itF p (a + b) x = itF p b (itF p a x)
  | 0, b, x => by rw [Nat.zero_add, itF]
  | a + 1, b, x => by
    rw [show a + 1 + b = (a + b) + 1 by omega, itF, itF]
    exact itF_add a b (fw p x)
def Sp (p : Asg) (n x : Nat) : Prop := x < n ∧ ∃ y, p x = some y
theorem itF_Sp {p : Asg} {n : Nat} (hc : ∀ x, Sp p n x → Sp p n (fw p x)) : ∀ (k x : Nat), Sp p n x → Sp p n (itF p k x)
  | 0, _, h => h
  | k + 1, x, h => itF_Sp hc k (fw p x) (hc x h)
theorem ret_of {p : Asg} {t n : Nat} (hc : ∀ x, Sp p n x → Sp p n (fw p x)) : ∀ (k x j : Nat), Sp p n x → j < k → itF p j x = t → retB p t k x = true
  | 0, _, _, _, h, _ => by omega
  | k + 1, x, j, hx, hj, h => by
    rw [retB]
    by_cases hxt : x = t
    · rw [if_pos hxt]
    · rw [if_neg hxt]
      obtain ⟨hxn, y, hy⟩ := hx
      rw [hy]
      cases j with
      | zero => exact absurd h hxt
      | succ j =>
        rw [itF, fw_of hy] at h
        exact ret_of hc k y j (by have := hc x ⟨hxn, y, hy⟩; rw [fw_of hy] at this; exact this) (by omega) h
theorem fit_of {p : Asg} {m n : Nat} (hc : ∀ x, Sp p n x → Sp p n (fw p x)) : ∀ (k x : Nat), Sp p n x → (∀ j, itF p j x ≤ m) → fitB p m k (some x) = true → ∃ j, j < k ∧ itF p j x = m
  | 0, _, _, _, h => by rw [fitB] at h; cases h
  | k + 1, x, hx, hm, h => by
    rw [fitB] at h
    by_cases hxt : x = m
    · exact ⟨0, by omega, hxt⟩
    · rw [if_neg hxt, if_neg (by have := hm 0; rw [itF] at this; omega)] at h
      obtain ⟨hxn, y, hy⟩ := hx
      have hS := hc x ⟨hxn, y, hy⟩
      rw [fw_of hy] at hS
      rw [hy] at h
      obtain ⟨j, h1, h2⟩ := fit_of hc k y hS (fun j => by have := hm (j + 1); rw [itF, fw_of hy] at this; exact this) h
      exact ⟨j + 1, by omega, by rw [itF, fw_of hy]; exact h2⟩
theorem it_max {p : Asg} {n : Nat} (hc : ∀ x, Sp p n x → Sp p n (fw p x)) : ∀ (d x : Nat), n - x ≤ d → Sp p n x → ∃ i, ∀ j, itF p j (itF p i x) ≤ itF p i x
  | 0, x, h, hx => by have := hx.1; omega
  | d + 1, x, h, hx => by
    by_cases hall : ∀ j, itF p j x ≤ x
    · exact ⟨0, hall⟩
    · obtain ⟨j, hj⟩ := Classical.not_forall.mp hall
      obtain ⟨i, hi⟩ := it_max hc d (itF p j x) (by omega) (itF_Sp hc j x hx)
      rw [← itF_add] at hi
      exact ⟨j + i, hi⟩
theorem it_inj {p : Asg} {n : Nat} (hc : ∀ x, Sp p n x → Sp p n (fw p x)) (hj : ∀ x y, Sp p n x → Sp p n y → fw p x = fw p y → x = y) : ∀ (i x y : Nat), Sp p n x → Sp p n y → itF p i x = itF p i y → x = y
  | 0, _, _, _, _, h => h
  | i + 1, x, y, hx, hy, h => hj x y hx hy (it_inj hc hj i (fw p x) (fw p y) (hc x hx) (hc y hy) h)
theorem FI_Val {can : Gr} {n L : Nat} {p : Asg} (hF : FI can n L p n) (hirr : ∀ t, can t t = false) : Val can n L p := by
  obtain ⟨h1, h2, h3⟩ := hF
  have hc : ∀ x, Sp p n x → Sp p n (fw p x) := by
    rintro x ⟨hx, y, hy⟩
    obtain ⟨hy1, hy2, hy3⟩ := h1 x y hx hy
    rw [fw_of hy]
    refine ⟨hy1, ?_⟩
    by_cases hxy : x < y
    · have := h3 y x hy1 hxy hy
      cases hp : p y with
      | none => exact absurd hp this
      | some z => exact ⟨z, rfl⟩
    · have hne : ¬ y = x := by
        rintro rfl
        rw [hirr] at hy2
        cases hy2
      cases hp : p y with
      | some z => exact ⟨z, rfl⟩
      | none =>
        exfalso
        cases L with
        | zero => rw [fitB] at hy3; cases hy3
        | succ L =>
          rw [fitB, if_neg hne, if_neg (by omega), hp] at hy3
          cases L <;> (rw [fitB] at hy3; cases hy3)
  have hj : ∀ x y, Sp p n x → Sp p n y → fw p x = fw p y → x = y := by
    rintro x y ⟨hx, x', hx'⟩ ⟨hy, y', hy'⟩ h
    rw [fw_of hx', fw_of hy'] at h
    subst h
    exact h2 x y x' hx hy hx' hy'
  refine ⟨fun t g ht hg => ⟨(h1 t g ht hg).1, (h1 t g ht hg).2.1, ?_⟩, fun t u g ht hu => h2 t u g ht hu⟩
  have hSt : Sp p n t := ⟨ht, g, hg⟩
  obtain ⟨i, hi⟩ := it_max hc (n - t) t (Nat.le_refl _) hSt
  have hSm := itF_Sp hc i t hSt
  obtain ⟨hm, y, hy⟩ := hSm
  have hSy := hc _ ⟨hm, y, hy⟩
  rw [fw_of hy] at hSy
  obtain ⟨j, hjL, hjm⟩ := fit_of hc L y hSy (fun j => by have := hi (j + 1); rw [itF, fw_of hy] at this; exact this) (h1 _ y hm hy).2.2
  have e1 : itF p (j + 1) (itF p i t) = itF p i t := by rw [itF, fw_of hy]; exact hjm
  rw [← itF_add, Nat.add_comm, itF_add] at e1
  have e2 := it_inj hc hj i _ _ (itF_Sp hc (j + 1) t hSt) hSt e1
  rw [itF, fw_of hg] at e2
  have hSg := hc t hSt
  rw [fw_of hg] at hSg
  exact ret_of hc L g j hSg hjL e2
def SMc (M : Mem) (can : Gr) (n L : Nat) : Prop := M 80 3 = nI n ∧ M 80 4 = nI L ∧ (∀ t, t < n → ∀ c, c < n → bitI (M 82 t) c = can t c) ∧ n ≤ 7 ∧ 2 ≤ L ∧ L ≤ 7
def Rp (M : Mem) (n : Nat) (p : Asg) (t : Nat) (tk : Int32) (s : Sst) : Prop := (∀ j, j < t → M 83 j = gI (-1) (p j)) ∧ (∀ c, c < n → (bitI tk c = true ↔ ∃ j, j < t ∧ p j = some c)) ∧ M 80 5 = nI s.1 - 1 ∧ (0 < s.1 → ∀ j, j < n → M 81 j = gI (-1) (s.2 j)) ∧ s.1 ≤ 8
def Fn (M M' : Mem) (n t : Nat) (s : Sst) : Prop := M' 80 5 = nI s.1 - 1 ∧ (0 < s.1 → ∀ j, j < n → M' 81 j = gI (-1) (s.2 j)) ∧ s.1 ≤ 8 ∧ (∀ j, j < t → M' 83 j = M 83 j) ∧ (∀ c, c ≠ 80 → c ≠ 81 → c ≠ 83 → M' c = M c) ∧ ∀ i, i ≠ 5 → M' 80 i = M 80 i
theorem SMc_fn {M M' : Mem} {can : Gr} {n L t : Nat} {s : Sst} (h : SMc M can n L) (hF : Fn M M' n t s) : SMc M' can n L := by
  obtain ⟨f1, f2, f3, f4, f5, f6⟩ := hF
  unfold SMc at *
  rw [f6 3 (by omega), f6 4 (by omega), f5 82 (by omega) (by omega) (by omega)]
  exact h
theorem Rp_fn {M M' : Mem} {n t : Nat} {p : Asg} {tk : Int32} {s s' : Sst} (h : Rp M n p t tk s) (hF : Fn M M' n t s') : Rp M' n p t tk s' := by
  obtain ⟨f1, f2, f3, f4, f5, f6⟩ := hF
  obtain ⟨r1, r2, r3, r4, r5⟩ := h
  exact ⟨fun j hj => by rw [f4 j hj]; exact r1 j hj, r2, f1, f2, f3⟩
theorem Fn_tr {M M1 M2 : Mem} {n t : Nat} {s s1 : Sst} (h1 : Fn M M1 n t s) (h2 : Fn M1 M2 n t s1) : Fn M M2 n t s1 := by
  obtain ⟨a1, a2, a3, a4, a5, a6⟩ := h1
  obtain ⟨b1, b2, b3, b4, b5, b6⟩ := h2
  exact ⟨b1, b2, b3, fun j hj => (b4 j hj).trans (a4 j hj), fun c c1 c2 c3 => (b5 c c1 c2 c3).trans (a5 c c1 c2 c3), fun i hi => (b6 i hi).trans (a6 i hi)⟩
theorem Fn_rf {M : Mem} {n t : Nat} {p : Asg} {tk : Int32} {s : Sst} (h : Rp M n p t tk s) : Fn M M n t s := ⟨h.2.2.1, h.2.2.2.1, h.2.2.2.2, fun _ _ => rfl, fun _ _ _ _ => rfl, fun _ _ => rfl⟩
theorem Rp_set {M : Mem} {n t : Nat} {p : Asg} {tk tk' : Int32} {s : Sst} {o : Option Nat} (h : Rp M n p t tk s) (htk : ∀ c, c < n → (bitI tk' c = true ↔ (bitI tk c = true ∨ o = some c))) : Rp (updM M 83 t (gI (-1) o)) n (setA p t o) (t + 1) tk' s := by
  obtain ⟨r1, r2, r3, r4, r5⟩ := h
  refine ⟨fun j hj => ?_, fun c hc => ?_, by rw [updM_ne (by decide)]; exact r3, by rw [updM_ne (by decide)]; exact r4, r5⟩
  · by_cases hjt : j = t
    · subst hjt; simp [updM, setA_at]
    · rw [setA_ne hjt, updM_at, if_neg (by omega)]
      exact r1 j (by omega)
  · rw [htk c hc, r2 c hc]
    constructor
    · rintro (⟨j, hj, hp⟩ | ho)
      · exact ⟨j, by omega, by rw [setA_ne (by omega)]; exact hp⟩
      · exact ⟨t, by omega, by rw [setA_at]; exact ho⟩
    · rintro ⟨j, hj, hp⟩
      by_cases hjt : j = t
      · subst hjt
        rw [setA_at] at hp
        exact Or.inr hp
      · rw [setA_ne hjt] at hp
        exact Or.inl ⟨j, by omega, hp⟩
theorem Fn_of_set {M M' : Mem} {n t : Nat} {s : Sst} {x : Int32} (h : Fn (updM M 83 t x) M' n (t + 1) s) : Fn M M' n t s := by
  obtain ⟨f1, f2, f3, f4, f5, f6⟩ := h
  refine ⟨f1, f2, f3, fun j hj => ?_, fun c c1 c2 c3 => ?_, fun i hi => ?_⟩
  · rw [f4 j (by omega), updM_at, if_neg (by omega)]
  · rw [f5 c c1 c2 c3, updM_ne c3]
  · rw [f6 i hi, updM_ne (by decide)]
theorem cnt_set {p : Asg} {t : Nat} {o : Option Nat} : cnt (setA p t o) (t + 1) = cnt p t + (if o.isSome = true then 1 else 0) := by
  rw [cnt, setA_at, cnt_congr t (fun j hj => setA_ne (by omega))]
