/-! sums on both sides -/
def cnB (f : Nat → Bool) : Nat → Nat
  | 0 => 0
  | n + 1 => cnB f n + (if f n = true then 1 else 0)
theorem cnB_le {f : Nat → Bool} : ∀ n, cnB f n ≤ n
  | 0 => Nat.le_refl _
  | n + 1 => by
    have := cnB_le (f := f) n
    rw [cnB]
    split <;> omega
theorem sumF_b2i {f : Nat → Bool} : ∀ n, sumF (fun g => b2i (f g)) n = nI (cnB f n)
  | 0 => rfl
  | n + 1 => by
    rw [sumF, cnB, sumF_b2i n]
    cases f n with
    | true => rw [if_pos rfl, b2i_T rfl, nI_1]
    | false =>
      rw [if_neg (by decide), b2i_F rfl]
      exact Int32.add_zero _
theorem sumF_congr {f g : Nat → Int32} : ∀ n, (∀ j, j < n → f j = g j) → sumF f n = sumF g n
  | 0, _ => rfl
  | n + 1, h => by
    rw [sumF, sumF, sumF_congr n (fun j hj => h j (by omega)), h n (by omega)]
theorem cnB_0 {f : Nat → Bool} : ∀ n, cnB f n = 0 → ∀ j, j < n → f j = false
  | 0, _, j, hj => absurd hj (by omega)
  | n + 1, h, j, hj => by
    rw [cnB] at h
    by_cases hn : f n = true
    · rw [if_pos hn] at h; omega
    · rw [if_neg hn] at h
      by_cases hjn : j = n
      · subst hjn; simpa using hn
      · exact cnB_0 n (by omega) j (by omega)
theorem cnB_z {f : Nat → Bool} : ∀ n, (∀ j, j < n → f j = false) → cnB f n = 0
  | 0, _ => rfl
  | n + 1, h => by
    rw [cnB, cnB_z n (fun j hj => h j (by omega)), h n (by omega)]
    rfl
theorem cnB_cut {f : Nat → Bool} {n : Nat} : ∀ m, cnB (fun k => decide (k < n) && f k) (n + m) = cnB f n
  | 0 => by
    have : ∀ m, m ≤ n → cnB (fun k => decide (k < n) && f k) m = cnB f m := by
      intro m
      induction m with
      | zero => intro _; rfl
      | succ m ih =>
        intro hm
        rw [cnB, cnB, ih (by omega), decide_eq_true (show m < n by omega), Bool.true_and]
    exact this n (Nat.le_refl _)
  | m + 1 => by
    rw [show n + (m + 1) = (n + m) + 1 from rfl, cnB, cnB_cut m, decide_eq_false (show ¬ n + m < n by omega), Bool.false_and]
    rfl
theorem bit_b2i {x : Int32} {c : Nat} (h : c < 31) : x >>> (nI c &&& 31) &&& 1 = b2i (bitI x c) := by
  have h1 := holds_bit (x := x) h
  rcases and1 (x >>> (nI c &&& 31)) with q | q
  · rw [q] at h1 ⊢
    rw [← h1]
    rfl
  · rw [q] at h1 ⊢
    rw [← h1]
    rfl
theorem gvm_in {V : Row} {t : Nat} : ∀ i, i ≤ 7 → vp_in (gvm V t i) 128
  | 0, _ => vp_in_nI (n := 0) (by decide) (by decide)
  | i + 1, hi => by
    rw [gvm]
    split
    · obtain ⟨a, ha, he⟩ := vp_in_of (gvm_in (V := V) (t := t) i (by omega)) (by decide)
      rw [he, sb_nI (by omega)]
      exact vp_in_nI (sb_lt (n := 7) ha (by omega)) (by decide)
    · exact gvm_in i (by omega)
theorem bc_gv {V : Row} (hV : WF V) {t : Nat} : bc (gv V t) = sumF (fun g => b2i (canV V t g)) (nT V) := by
  have h7 := (WF_n hV).1
  rw [bc_bits (show vp_in (gv V t) 128 from gvm_in _ h7)]
  unfold bits7
  rw [sumF_congr (g := fun k => b2i (decide (k < nT V) && canV V t k)) 7 (fun k hk => by
    rw [bit_b2i (by omega)]
    unfold gv
    rw [bit_gvm (by omega) (nT V) (by omega)])]
  rw [sumF_b2i, sumF_b2i]
  obtain ⟨m, hm⟩ : ∃ m, 7 = nT V + m := ⟨7 - nT V, by omega⟩
  rw [hm, cnB_cut]
theorem gv_0 {V : Row} (hV : WF V) {t : Nat} : gv V t = 0 ↔ sumF (fun g => b2i (canV V t g)) (nT V) = 0 := by
  have h7 := (WF_n hV).1
  rw [sumF_b2i]
  have hle := cnB_le (f := fun g => canV V t g) (nT V)
  constructor
  · intro h
    rw [cnB_z]
    · rfl
    · intro j hj
      have := bit_gv hV (t := t) hj
      rw [h, bit_zero] at this
      exact this.symm
  · intro h
    have h0 : cnB (fun g => canV V t g) (nT V) = 0 := (nI_eq (b := 0) (by omega) (by decide)).mp h
    have h1 := cnB_0 _ h0
    have : ∀ i, i ≤ nT V → gvm V t i = 0 := by
      intro i
      induction i with
      | zero => intro _; rfl
      | succ i ih =>
        intro hi
        rw [gvm, if_neg (by rw [h1 i (by omega)]; decide)]
        exact ih (by omega)
    exact this _ (Nat.le_refl _)
theorem stuck_eq {V : Row} (hV : WF V) : stuckV V = sumF (fun t => ind (0 < V (23 + 5 * t) ∧ sumF (fun g => b2i (canV V t g)) (nT V) = 0)) (nT V) := by
  unfold stuckV
  refine sumF_congr _ (fun t ht => ?_)
  have hw := (hV.2.1 t ht).2.1
  obtain ⟨a, ha, he⟩ := vp_in_of hw (by decide)
  have h1 : (¬ V (23 + 5 * t) = 0) ↔ 0 < V (23 + 5 * t) := by
    rw [he, show (0 : Int32) = nI 0 from rfl, nI_eq (by omega) (by decide), nI_ltI (by decide) (by omega)]
    omega
  simp only [ind, h1, gv_0 hV]
theorem sum_split {f g h : Nat → Int32} : ∀ n, (∀ j, j < n → f j = g j + h j) → sumF f n = sumF g n + sumF h n
  | 0, _ => rfl
  | n + 1, q => by
    rw [sumF, sumF, sumF, sum_split n (fun j hj => q j (by omega)), q n (by omega)]
    grind
theorem sum_1 : ∀ n, sumF (fun _ => 1) n = nI n
  | 0 => rfl
  | n + 1 => by rw [sumF, sum_1 n, nI_1]
theorem sound_eq {V : Row} (hV : WF V) : soundV V = V 1 - spoiltV V := by
  have h : sumF (fun _ => 1) (nT V) = soundV V + spoiltV V := sum_split _ (fun j _ => by
    by_cases q : 0 < dli V j
    · simp [ind, q]
    · simp [ind, q])
  rw [sum_1, ← (WF_n hV).2] at h
  rw [h]
  grind
theorem kind2_eq {V : Row} {k : Int32} : waresV V k - swaresV V k = sumF (fun t => ind (V (24 + 5 * t) = k ∧ ¬ 0 < dli V t)) (nT V) := by
  have h : waresV V k = swaresV V k + sumF (fun t => ind (V (24 + 5 * t) = k ∧ ¬ 0 < dli V t)) (nT V) := sum_split _ (fun j _ => by
    by_cases q : 0 < dli V j <;> by_cases r : V (24 + 5 * j) = k
    · simp [ind, q, r]
    · simp [ind, q, r]
    · simp [ind, q, r]
    · simp [ind, q, r])
  rw [h]
  grind
theorem FS_5 {M M' : Mem} (h : ∀ c, (c < 75 ∨ 83 < c) → M' c = M c) : FS M M' := ⟨fun c hc => h c (by omega), fun i _ _ => by rw [h 84 (by omega)]⟩
theorem FS_16 {M : Mem} {x : Int32} : FS M (updM M 84 16 x) := ⟨fun c hc => updM_ne (by omega), fun i _ h => by rw [updM_at, if_neg (by omega)]⟩
