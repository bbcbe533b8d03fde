theorem bit_gvm {V : Row} {t c : Nat} (hc : c < 31) : ∀ i, i ≤ 31 → bitI (gvm V t i) c = (decide (c < i) && canV V t c)
  | 0, _ => by rw [gvm, bit_zero]; simp
  | i + 1, hi => by
    have ih := bit_gvm (V := V) (t := t) hc i (by omega)
    rw [gvm]
    by_cases h : canV V t i = true
    · rw [if_pos h, bit_or, bit_one (by omega) (by omega), ih]
      by_cases hci : c = i
      · subst hci
        simp [h]
      · by_cases h2 : c < i
        · simp [h2, hci, show c < i + 1 by omega]
        · simp [h2, hci, show ¬ c < i + 1 by omega]
    · rw [if_neg h, ih]
      by_cases hci : c = i
      · subst hci
        have : canV V t c = false := by simpa using h
        simp [this]
      · by_cases h2 : c < i
        · simp [h2, show c < i + 1 by omega]
        · simp [h2, show ¬ c < i + 1 by omega]
theorem bit_gv {V : Row} (hV : WF V) {t c : Nat} (hc : c < nT V) : bitI (gv V t) c = canV V t c := by
  have := (WF_n hV).1
  unfold gv
  rw [bit_gvm (by omega) _ (by omega)]
  simp [hc]
theorem can_irr {V : Row} (t : Nat) : canV V t t = false := by simp [canV]
def cirN (V : Row) : Nat := (V 7).toNatClampNeg
theorem cir_ok {V : Row} (hV : WF V) : V 7 = nI (cirN V) ∧ 2 ≤ cirN V ∧ cirN V ≤ 7 := by
  obtain ⟨h1, h2⟩ := hV.2.2.2.1
  have h3 := vpin_nI h1
  have h4 := vpin_lt h1
  have h5 : cirN V < 8 := h4
  refine ⟨h3, ?_, by omega⟩
  rw [h3] at h2
  exact (nI_leI (a := 2) (b := cirN V) (by decide) (by omega)).mp h2
noncomputable def bst (V : Row) (L : Nat) : Sst := DD (canV V) (nT V) L (nT V) (fun _ => none) (0, fun _ => none)
/-- a way is among those that are seen -/
theorem DF_ge (f : Nat → Sst → Sst) (hf : ∀ c s, s.1 ≤ (f c s).1) (s : Sst) : ∀ m c, s.1 ≤ (DF f m c s).1
  | 0, _ => Nat.le_refl _
  | m + 1, c => by
    rw [DF]
    exact Nat.le_trans (hf c s) (DF_ge f hf (f c s) m (c + 1))
theorem DD_ge {can : Gr} {n L : Nat} : ∀ (k : Nat) (p : Asg) (s : Sst), s.1 ≤ (DD can n L k p s).1
  | 0, p, s => by
    rw [DD, leafD]
    by_cases h : Val can n L p ∧ s.1 ≤ cnt p n
    · rw [@if_pos _ (Classical.propDecidable _) h]
      show s.1 ≤ cnt p n + 1
      omega
    · rw [@if_neg _ (Classical.propDecidable _) h]
      exact Nat.le_refl _
  | k + 1, p, s => by
    rw [DD]
    exact DF_ge _ (fun c s => DD_ge k _ s) s _ _
theorem DF_hit (f : Nat → Sst → Sst) (hf : ∀ c s, s.1 ≤ (f c s).1) (a x : Nat) (hx : ∀ s, a ≤ (f x s).1) (s : Sst) : ∀ m c, c ≤ x → x < c + m → a ≤ (DF f m c s).1
  | 0, _, h1, h2 => by omega
  | m + 1, c, h1, h2 => by
    rw [DF]
    by_cases h : c = x
    · subst h
      exact Nat.le_trans (hx s) (DF_ge f hf _ m (c + 1))
    · exact DF_hit f hf a x hx (f c s) m (c + 1) (by omega) (by omega)
theorem Val_congr {can : Gr} {n L : Nat} {A B : Asg} (h : ∀ j, j < n → A j = B j) (hV : Val can n L A) : Val can n L B := by
  have hr : ∀ (t : Nat), t < n → ∀ (k x : Nat), x < n → retB A t k x = retB B t k x := by
    intro t ht k
    induction k with
    | zero => intro x _; rfl
    | succ k ih =>
      intro x hx
      rw [retB, retB, h x hx]
      cases hb : B x with
      | none => rfl
      | some y =>
        have hy := (hV.1 x y hx (by rw [h x hx]; exact hb)).1
        simp only [ih y hy]
  refine ⟨fun t g ht hg => ?_, fun t u g ht hu h1 h2 => hV.2 t u g ht hu (by rw [h t ht]; exact h1) (by rw [h u hu]; exact h2)⟩
  obtain ⟨a, b, c⟩ := hV.1 t g ht (by rw [h t ht]; exact hg)
  exact ⟨a, b, by rw [← hr t ht L g a]; exact c⟩
theorem DD_hit {can : Gr} {n L : Nat} : ∀ (k : Nat) (p : Asg) (s : Sst) (B : Asg), k ≤ n → (∀ j, j < n - k → B j = p j) → Val can n L B → cnt B n + 1 ≤ (DD can n L k p s).1
  | 0, p, s, B, _, hB, hV => by
    have hp : Val can n L p := Val_congr (fun j hj => hB j (by omega)) hV
    have hc : cnt B n = cnt p n := cnt_congr n (fun j hj => hB j (by omega))
    rw [DD, leafD]
    by_cases h : Val can n L p ∧ s.1 ≤ cnt p n
    · rw [@if_pos _ (Classical.propDecidable _) h, hc]
      exact Nat.le_refl _
    · rw [@if_neg _ (Classical.propDecidable _) h, hc]
      have : ¬ s.1 ≤ cnt p n := fun q => h ⟨hp, q⟩
      omega
  | k + 1, p, s, B, hk, hB, hV => by
    rw [DD]
    have hx : ∃ x, x ≤ n ∧ opt n x = B (n - (k + 1)) := by
      cases hb : B (n - (k + 1)) with
      | none => exact ⟨n, Nat.le_refl _, by unfold opt; rw [if_neg (by omega)]⟩
      | some g =>
        have hg := (hV.1 (n - (k + 1)) g (by omega) hb).1
        exact ⟨g, by omega, by unfold opt; rw [if_pos hg]⟩
    obtain ⟨x, hx1, hx2⟩ := hx
    refine DF_hit _ (fun c s => DD_ge k _ s) _ x (fun s => ?_) s (n + 1) 0 (Nat.zero_le _) (by omega)
    refine DD_hit k _ s B (by omega) (fun j hj => ?_) hV
    by_cases hjt : j = n - (k + 1)
    · subst hjt
      rw [setA_at, hx2]
    · rw [setA_ne hjt]
      exact hB j (by omega)
theorem Val_none {can : Gr} {n L : Nat} : Val can n L (fun _ => none) := ⟨fun t g _ h => (by cases h), fun t u g _ _ h => (by cases h)⟩
theorem bst_pos {V : Row} {L : Nat} : 0 < (bst V L).1 := by
  have := DD_hit (can := canV V) (n := nT V) (L := L) (nT V) (fun _ => none) (0, fun _ => none) (fun _ => none) (Nat.le_refl _) (fun _ _ => rfl) Val_none
  unfold bst
  omega
