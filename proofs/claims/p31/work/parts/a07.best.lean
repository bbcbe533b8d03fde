/-! what the best barter is: valid, greatest, closed -/
theorem DF_cnt {n : Nat} {f : Nat → Sst → Sst} (hf : ∀ c s, (0 < s.1 → s.1 = cnt s.2 n + 1) → 0 < (f c s).1 → (f c s).1 = cnt (f c s).2 n + 1) : ∀ (m c : Nat) (s : Sst), (0 < s.1 → s.1 = cnt s.2 n + 1) → 0 < (DF f m c s).1 → (DF f m c s).1 = cnt (DF f m c s).2 n + 1
  | 0, _, _, h => h
  | m + 1, c, s, h => by
    rw [DF]
    exact DF_cnt hf m (c + 1) _ (hf c s h)
theorem DD_cnt {can : Gr} {n L : Nat} : ∀ (k : Nat) (p : Asg) (s : Sst), (0 < s.1 → s.1 = cnt s.2 n + 1) → 0 < (DD can n L k p s).1 → (DD can n L k p s).1 = cnt (DD can n L k p s).2 n + 1
  | 0, p, s, h => by
    rw [DD]
    by_cases q : Val can n L p ∧ s.1 ≤ cnt p n
    · rw [leaf_n q.1 q.2]
      exact fun _ => rfl
    · rw [leaf_s (fun hV => by
        have : ¬ s.1 ≤ cnt p n := fun z => q ⟨hV, z⟩
        omega)]
      exact h
  | k + 1, p, s, h => by
    rw [DD]
    exact DF_cnt (f := fun c s => DD can n L k (setA p (n - (k + 1)) (opt n c)) s) (fun c s h => DD_cnt k _ s h) _ _ _ h
noncomputable def bcn (V : Row) (L : Nat) : Nat := cnt (bst V L).2 (nT V)
theorem bst_cnt {V : Row} {L : Nat} : (bst V L).1 = bcn V L + 1 := DD_cnt (nT V) (fun _ => none) (0, fun _ => none) (fun h => absurd h (Nat.lt_irrefl _)) bst_pos
theorem bst_val {V : Row} {L : Nat} : Val (canV V) (nT V) L (bst V L).2 := DD_val _ _ _ (fun h => absurd h (Nat.lt_irrefl _)) bst_pos
theorem bst_max {V : Row} {L : Nat} {B : Asg} (h : Val (canV V) (nT V) L B) : cnt B (nT V) ≤ bcn V L := by
  have h1 := DD_hit (can := canV V) (n := nT V) (L := L) (nT V) (fun _ => none) (0, fun _ => none) B (Nat.le_refl _) (fun j hj => by omega) h
  have h2 := bst_cnt (V := V) (L := L)
  unfold bst at h2
  omega
theorem mst_eq {V : Row} {L : Nat} : mstV V L = nI (bcn V L) := by
  unfold mstV
  rw [bst_cnt, nI_s1]
theorem bcn_le {V : Row} {L : Nat} : bcn V L ≤ nT V := cnt_le _ _
theorem ret_mono {p : Asg} {t : Nat} : ∀ (k x m : Nat), k ≤ m → retB p t k x = true → retB p t m x = true
  | 0, _, _, _, h => by rw [retB] at h; cases h
  | k + 1, x, 0, hm, _ => by omega
  | k + 1, x, m + 1, hm, h => by
    rw [retB] at h ⊢
    by_cases hx : x = t
    · rw [if_pos hx]
    · rw [if_neg hx] at h ⊢
      cases hp : p x with
      | none => rw [hp] at h; cases h
      | some y =>
        rw [hp] at h
        exact ret_mono k y m (by omega) h
theorem Val_mono {can : Gr} {n L L' : Nat} {B : Asg} (hL : L ≤ L') (h : Val can n L B) : Val can n L' B := ⟨fun t g ht hg => ⟨(h.1 t g ht hg).1, (h.1 t g ht hg).2.1, ret_mono L g L' hL (h.1 t g ht hg).2.2⟩, h.2⟩
theorem bcn_mono {V : Row} {L L' : Nat} (hL : L ≤ L') : bcn V L ≤ bcn V L' := bst_max (Val_mono hL bst_val)
/-- the sets that the law gathers -/
def inM (p : Asg) (t : Nat) : Int32 := msk (fun c => (p c).isSome) t
def gvA (p : Asg) : Nat → Int32
  | 0 => 0
  | t + 1 => match p t with
    | none => gvA p t
    | some g => gvA p t ||| 1 <<< (nI g &&& 31)
theorem inM_n {p : Asg} {t : Nat} (h : p t = none) : inM p (t + 1) = inM p t := by
  unfold inM
  rw [msk, h]
  rfl
theorem inM_s {p : Asg} {t g : Nat} (h : p t = some g) : inM p (t + 1) = inM p t ||| 1 <<< (nI t &&& 31) := by
  unfold inM
  rw [msk, h]
  rfl
theorem gvA_n {p : Asg} {t : Nat} (h : p t = none) : gvA p (t + 1) = gvA p t := by rw [gvA, h]
theorem gvA_s {p : Asg} {t g : Nat} (h : p t = some g) : gvA p (t + 1) = gvA p t ||| 1 <<< (nI g &&& 31) := by rw [gvA, h]
theorem cnt_n {p : Asg} {t : Nat} (h : p t = none) : cnt p (t + 1) = cnt p t := by rw [cnt, h]; rfl
theorem cnt_s {p : Asg} {t g : Nat} (h : p t = some g) : cnt p (t + 1) = cnt p t + 1 := by rw [cnt, h]; rfl
theorem bit_gvA {p : Asg} {c : Nat} (hc : c < 32) : ∀ t, (∀ j g, j < t → p j = some g → g < 31) → (bitI (gvA p t) c = true ↔ ∃ j, j < t ∧ p j = some c)
  | 0, _ => by
    rw [gvA, bit_zero]
    constructor
    · intro h; cases h
    · rintro ⟨j, hj, _⟩; omega
  | t + 1, h => by
    have ih := bit_gvA (p := p) hc t (fun j g hj => h j g (by omega))
    cases hp : p t with
    | none =>
      rw [gvA_n hp, ih]
      constructor
      · rintro ⟨j, hj, e⟩; exact ⟨j, by omega, e⟩
      · rintro ⟨j, hj, e⟩
        by_cases hjt : j = t
        · subst hjt; rw [hp] at e; cases e
        · exact ⟨j, by omega, e⟩
    | some g =>
      have hg := h t g (by omega) hp
      rw [gvA_s hp, bit_or, bit_one hg hc, Bool.or_eq_true, ih, decide_eq_true_eq]
      constructor
      · rintro (⟨j, hj, e⟩ | rfl)
        · exact ⟨j, by omega, e⟩
        · exact ⟨t, by omega, hp⟩
      · rintro ⟨j, hj, e⟩
        by_cases hjt : j = t
        · subst hjt
          rw [hp] at e
          exact Or.inr (Option.some.inj e).symm
        · exact Or.inl ⟨j, by omega, e⟩
theorem bit_inM {p : Asg} {t c : Nat} (hc : c < 32) (ht : t ≤ 31) : bitI (inM p t) c = (decide (c < t) && (p c).isSome) := bit_msk hc t ht
theorem val_lt {V : Row} {L : Nat} (hV : WF V) {p : Asg} (h : Val (canV V) (nT V) L p) {t : Nat} (ht : t ≤ nT V) : ∀ j g, j < t → p j = some g → g < 31 := fun j g hj hg => by
  have := (h.1 j g (by omega) hg).1
  have := (WF_n hV).1
  omega
/-- the traders that take are the traders that are taken from -/
theorem in_gv {V : Row} {L : Nat} (hV : WF V) {p : Asg} (h : Val (canV V) (nT V) L p) : inM p (nT V) = gvA p (nT V) := by
  have h7 := (WF_n hV).1
  obtain ⟨v1, v2⟩ := Val_VC.mp h
  apply bits_ext
  intro c hc
  apply Bool.eq_iff_iff.mpr
  rw [bit_inM hc (by omega), bit_gvA hc _ (val_lt hV h (Nat.le_refl _)), Bool.and_eq_true, decide_eq_true_eq]
  constructor
  · rintro ⟨a, b⟩
    obtain ⟨g, hg⟩ := Option.isSome_iff_exists.mp b
    obtain ⟨g1, g2, g3, j, hj, e⟩ := v1 c g a hg
    have hS : ∀ x, Sp p (nT V) x → Sp p (nT V) (fw p x) := by
      rintro x ⟨hx, y, hy⟩
      rw [fw_of hy]
      obtain ⟨a1, _, a3, _⟩ := v1 x y hx hy
      exact ⟨a1, a3⟩
    cases j with
    | zero =>
      rw [itF] at e
      subst e
      rw [can_irr] at g2
      cases g2
    | succ j =>
      rw [itF_add, itF, itF] at e
      obtain ⟨x1, y, hy⟩ := itF_Sp hS j g ⟨g1, g3⟩
      rw [fw_of hy] at e
      exact ⟨_, x1, by rw [hy, e]⟩
  · rintro ⟨j, hj, e⟩
    obtain ⟨g1, _, ⟨y, hy⟩, _⟩ := v1 j c hj e
    exact ⟨g1, by rw [hy]; rfl⟩
/-- no two that are left out can take from each other -/
theorem no_two {V : Row} {L t k : Nat} (hL : 2 ≤ L) (ht : t < nT V) (hk : k < t) (h1 : (bst V L).2 t = none) (h2 : (bst V L).2 k = none) (h3 : canV V t k = true) (h4 : canV V k t = true) : False := by
  obtain ⟨v1, v2⟩ := bst_val (V := V) (L := L)
  generalize hp : (bst V L).2 = p at *
  have hin : ∀ j g, j < nT V → p j = some g → g ≠ t ∧ g ≠ k := by
    intro j g hj hg
    have hret := (v1 j g hj hg).2.2
    cases L with
    | zero => omega
    | succ L =>
      rw [retB] at hret
      have hj2 : g ≠ j := by
        rintro rfl
        have := (v1 g g hj hg).2.1
        rw [can_irr] at this
        cases this
      rw [if_neg hj2] at hret
      constructor
      · rintro rfl
        rw [h1] at hret
        cases hret
      · rintro rfl
        rw [h2] at hret
        cases hret
  let q : Asg := fun j => if j = t then some k else if j = k then some t else p j
  have qt : q t = some k := if_pos rfl
  have qk : q k = some t := by
    show (if k = t then some k else if k = k then some t else p k) = some t
    rw [if_neg (by omega), if_pos rfl]
  have qo : ∀ j, j ≠ t → j ≠ k → q j = p j := fun j a b => by
    show (if j = t then some k else if j = k then some t else p j) = p j
    rw [if_neg a, if_neg b]
  have hqr : ∀ (u : Nat), u ≠ t → u ≠ k → ∀ (m x : Nat), x < nT V → x ≠ t → x ≠ k → retB q u m x = retB p u m x := by
    intro u a b m
    induction m with
    | zero => intro x _ _ _; rfl
    | succ m ih =>
      intro x hx x1 x2
      rw [retB, retB, qo x x1 x2]
      cases hpx : p x with
      | none => rfl
      | some y =>
        have := hin x y hx hpx
        simp only [ih y (v1 x y hx hpx).1 this.1 this.2]
  have hVq : Val (canV V) (nT V) L q := by
    refine ⟨fun u g hu hg => ?_, fun u w g hu hw e1 e2 => ?_⟩
    · by_cases a : u = t
      · subst a
        rw [qt] at hg
        cases hg
        refine ⟨by omega, h3, ?_⟩
        obtain ⟨L', rfl⟩ : ∃ L', L = L' + 2 := ⟨L - 2, by omega⟩
        rw [retB, if_neg (by omega), qk]
        show retB q u (L' + 1) u = true
        rw [retB, if_pos rfl]
      · by_cases b : u = k
        · subst b
          rw [qk] at hg
          cases hg
          refine ⟨ht, h4, ?_⟩
          obtain ⟨L', rfl⟩ : ∃ L', L = L' + 2 := ⟨L - 2, by omega⟩
          rw [retB, if_neg (by omega), qt]
          show retB q u (L' + 1) u = true
          rw [retB, if_pos rfl]
        · rw [qo u a b] at hg
          obtain ⟨g1, g2, g3⟩ := v1 u g hu hg
          have := hin u g hu hg
          exact ⟨g1, g2, by rw [hqr u a b L g g1 this.1 this.2]; exact g3⟩
    · have hx : ∀ u, u < nT V → q u = some g → (u = t ∧ g = k) ∨ (u = k ∧ g = t) ∨ (u ≠ t ∧ u ≠ k ∧ p u = some g) := by
        intro u hu e
        by_cases a : u = t
        · subst a; rw [qt] at e; exact Or.inl ⟨rfl, (Option.some.inj e).symm⟩
        · by_cases b : u = k
          · subst b; rw [qk] at e; exact Or.inr (Or.inl ⟨rfl, (Option.some.inj e).symm⟩)
          · rw [qo u a b] at e; exact Or.inr (Or.inr ⟨a, b, e⟩)
      rcases hx u hu e1 with ⟨a, b⟩ | ⟨a, b⟩ | ⟨a, b, c⟩
      · rcases hx w hw e2 with ⟨a', b'⟩ | ⟨a', b'⟩ | ⟨a', b', c'⟩
        · omega
        · omega
        · exact absurd b (hin w g hw c').2
      · rcases hx w hw e2 with ⟨a', b'⟩ | ⟨a', b'⟩ | ⟨a', b', c'⟩
        · omega
        · omega
        · exact absurd b (hin w g hw c').1
      · rcases hx w hw e2 with ⟨a', b'⟩ | ⟨a', b'⟩ | ⟨a', b', c'⟩
        · exact absurd b' (hin u g hu c).2
        · exact absurd b' (hin u g hu c).1
        · exact v2 u w g hu hw c c'
  have hm := bst_max hVq
  have hc : ∀ m, m ≤ nT V → cnt q m = cnt p m + (if k < m then 1 else 0) + (if t < m then 1 else 0) := by
    intro m
    induction m with
    | zero => intro _; rfl
    | succ m ih =>
      intro hm
      have := ih (by omega)
      by_cases a : m = t
      · subst a
        rw [cnt_s qt, cnt_n h1, this, if_pos (show k < m by omega), if_neg (Nat.lt_irrefl _), if_pos (show k < m + 1 by omega), if_pos (Nat.lt_succ_self _)]
      · by_cases b : m = k
        · subst b
          rw [cnt_s qk, cnt_n h2, this, if_neg (Nat.lt_irrefl _), if_neg (show ¬ t < m by omega), if_pos (Nat.lt_succ_self _), if_neg (show ¬ t < m + 1 by omega)]
        · rw [cnt, cnt, this, qo m a b]
          have e1 : (k < m + 1) ↔ k < m := by omega
          have e2 : (t < m + 1) ↔ t < m := by omega
          simp only [e1, e2]
          omega
  have := hc (nT V) (Nat.le_refl _)
  rw [if_pos (show k < nT V by omega), if_pos ht] at this
  have e : bcn V L = cnt p (nT V) := by unfold bcn; rw [hp]
  omega
