/-! what the sets of circles hold -/
theorem bit_msk {f : Nat → Bool} {c : Nat} (hc : c < 32) : ∀ i, i ≤ 31 → bitI (msk f i) c = (decide (c < i) && f c)
  | 0, _ => by rw [msk, bit_zero]; simp
  | i + 1, hi => by
    have ih := bit_msk (f := f) hc i (by omega)
    rw [msk]
    by_cases h : f i = true
    · rw [if_pos h, bit_or, bit_one (by omega) (by omega), ih]
      by_cases hci : c = i
      · subst hci
        simp [h]
      · by_cases h2 : c < i
        · simp [h2, hci, show c < i + 1 by omega]
        · simp [h2, hci, show ¬ c < i + 1 by omega]
    · rw [if_neg h, ih]
      by_cases hci : c = i
      · subst hci
        have : f c = false := by simpa using h
        simp [this]
      · by_cases h2 : c < i
        · simp [h2, show c < i + 1 by omega]
        · simp [h2, show ¬ c < i + 1 by omega]
theorem bits_ext {x y : Int32} (h : ∀ c, c < 32 → bitI x c = bitI y c) : x = y := by
  apply Int32.toBitVec_inj.mp
  apply BitVec.eq_of_getLsbD_eq
  intro i hi
  exact h i hi
theorem and_bits {x y : Int32} : ¬ x &&& y = 0 ↔ ∃ c, c < 32 ∧ bitI x c = true ∧ bitI y c = true := by
  constructor
  · intro h
    apply Classical.byContradiction
    intro hn
    apply h
    apply bits_ext
    intro c hc
    rw [bit_and, bit_zero]
    cases h1 : bitI x c with
    | false => rfl
    | true =>
      cases h2 : bitI y c with
      | false => rfl
      | true => exact absurd ⟨c, hc, h1, h2⟩ hn
  · rintro ⟨c, hc, h1, h2⟩ h
    have := bit_and (x := x) (y := y) (c := c)
    rw [h, bit_zero, h1, h2] at this
    cases this
def Ch (can : Gr) (n x l : Nat) : Prop := ∀ P : Nat → Nat → Prop, (∀ t, t < n → P (2 ^ t) t) → (∀ x l c, P x l → c < n → x.testBit c = false → lo x < c → can l c = true → P (sb x c) c) → P x l
theorem Ch_one {can : Gr} {n t : Nat} (h : t < n) : Ch can n (2 ^ t) t := fun _ p1 _ => p1 t h
theorem Ch_more {can : Gr} {n x l c : Nat} (h : Ch can n x l) (h1 : c < n) (h2 : x.testBit c = false) (h3 : lo x < c) (h4 : can l c = true) : Ch can n (sb x c) c := fun P p1 p2 => p2 x l c (h P p1 p2) h1 h2 h3 h4
theorem Ch_inv {can : Gr} {n y c : Nat} (h : Ch can n y c) : (c < n ∧ y = 2 ^ c) ∨ ∃ z l, Ch can n z l ∧ c < n ∧ z.testBit c = false ∧ lo z < c ∧ can l c = true ∧ y = sb z c := by
  have := h (fun y c => Ch can n y c ∧ ((c < n ∧ y = 2 ^ c) ∨ ∃ z l, Ch can n z l ∧ c < n ∧ z.testBit c = false ∧ lo z < c ∧ can l c = true ∧ y = sb z c)) (fun t ht => ⟨Ch_one ht, Or.inl ⟨ht, rfl⟩⟩) (fun x l c hP h1 h2 h3 h4 => ⟨Ch_more hP.1 h1 h2 h3 h4, Or.inr ⟨x, l, hP.1, h1, h2, h3, h4, rfl⟩⟩)
  exact this.2
theorem tb_sb {x c j : Nat} : (sb x c).testBit j = (x.testBit j || decide (j = c)) := by
  unfold sb
  rw [Nat.testBit_or, Nat.testBit_two_pow]
  by_cases h : j = c
  · subst h; simp
  · simp [h, Ne.symm h]
theorem sb_gt {x c : Nat} (hx : x < 128) (hc : c < 7) (h : x.testBit c = false) : x < sb x c := by
  have h1 : ∀ (x : Fin 128) (c : Fin 7), x.val.testBit c.val = false → x.val < sb x.val c.val := by decide +kernel
  exact h1 ⟨x, hx⟩ ⟨c, hc⟩ h
theorem Ch_lt {can : Gr} {n x l : Nat} (h : Ch can n x l) : x < 2 ^ n ∧ l < n ∧ x.testBit l = true := by
  refine h (fun x l => x < 2 ^ n ∧ l < n ∧ x.testBit l = true) (fun t ht => ⟨Nat.pow_lt_pow_right (by decide) ht, ht, by simp⟩) (fun x l c ih hc _ _ _ => ⟨sb_lt ih.1 hc, hc, by rw [tb_sb]; simp⟩)
theorem Ch_ne {can : Gr} {n x l : Nat} (h : Ch can n x l) : x ≠ 0 := by
  intro h0
  have := (Ch_lt h).2.2
  rw [h0] at this
  simp at this
def ChB (can : Gr) (n x i y c : Nat) : Prop := (c < n ∧ y = 2 ^ c) ∨ ∃ z l, Ch can n z l ∧ (z < x ∨ (z = x ∧ c < i)) ∧ c < n ∧ z.testBit c = false ∧ lo z < c ∧ can l c = true ∧ y = sb z c
theorem ChB_Ch {can : Gr} {n x i y c : Nat} (h : ChB can n x i y c) : Ch can n y c := by
  rcases h with ⟨h1, rfl⟩ | ⟨z, l, h1, _, h2, h3, h4, h5, rfl⟩
  · exact Ch_one h1
  · exact Ch_more h1 h2 h3 h4 h5
theorem Ch_ChB {can : Gr} {n x i y c : Nat} (hn : n ≤ 7) (h : Ch can n y c) (hy : y ≤ x) : ChB can n x i y c := by
  rcases Ch_inv h with q | ⟨z, l, h1, h2, h3, h4, h5, rfl⟩
  · exact Or.inl q
  · have := p2_le hn
    have hz := sb_gt (by have := (Ch_lt h1).1; omega) (by omega) h3
    exact Or.inr ⟨_, _, h1, Or.inl (by omega), h2, h3, h4, h5, rfl⟩
def Pre (can : Gr) (n x i : Nat) (R : Row) : Prop := ∀ y c, y < 2 ^ n → c < 32 → (bitI (R y) c = true ↔ ChB can n x i y c)
def TkOk (can : Gr) (n : Nat) (tk : Row) : Prop := ∀ g, g < n → ∀ t, t < 32 → bitI (tk g) t = (decide (t < n) && can t g)
theorem Pre_s {can : Gr} {n x i : Nat} {tk R : Row} (hn : n ≤ 7) (ht : TkOk can n tk) (hx : x < 2 ^ n) (hi : i < n) (hl : lo x < i) (h : Pre can n x i R) : Pre can n x (i + 1) (chS tk x i R) := by
  have hp := p2_le hn
  have key : (¬ R x &&& tk i = 0) ↔ ∃ l, Ch can n x l ∧ can l i = true := by
    rw [and_bits]
    constructor
    · rintro ⟨c, hc, h1, h2⟩
      rw [ht i hi c hc, Bool.and_eq_true] at h2
      exact ⟨c, ChB_Ch ((h x c hx hc).mp h1), h2.2⟩
    · rintro ⟨l, h1, h2⟩
      have hln := (Ch_lt h1).2.1
      exact ⟨l, by omega, (h x l hx (by omega)).mpr (Ch_ChB hn h1 (Nat.le_refl _)), by rw [ht i hi l (by omega), h2]; simp [hln]⟩
  intro y c hy hc
  have hmono : ChB can n x i y c → ChB can n x (i + 1) y c := by
    rintro (q | ⟨z, l, a, b, r⟩)
    · exact Or.inl q
    · exact Or.inr ⟨z, l, a, by omega, r⟩
  by_cases hcond : x.testBit i = false ∧ ¬ R x &&& tk i = 0
  · obtain ⟨hb, hz⟩ := hcond
    obtain ⟨l, hl1, hl2⟩ := key.mp hz
    unfold chS
    rw [if_pos ⟨hb, hz⟩]
    unfold upd
    by_cases hyx : y = sb x i
    · rw [if_pos hyx, bit_or, bit_one (by omega) hc, Bool.or_eq_true, ← hyx, h y c hy hc, decide_eq_true_eq]
      constructor
      · rintro (q | rfl)
        · exact hmono q
        · exact Or.inr ⟨x, l, hl1, Or.inr ⟨rfl, by omega⟩, hi, hb, hl, hl2, hyx⟩
      · rintro (q | ⟨z, l', a, b, r⟩)
        · exact Or.inl (Or.inl q)
        · by_cases hci : c = i
          · exact Or.inr hci
          · exact Or.inl (Or.inr ⟨z, l', a, by omega, r⟩)
    · rw [if_neg hyx, h y c hy hc]
      constructor
      · exact hmono
      · rintro (q | ⟨z, l', a, b, r⟩)
        · exact Or.inl q
        · refine Or.inr ⟨z, l', a, ?_, r⟩
          rcases b with b | ⟨b1, b2⟩
          · exact Or.inl b
          · refine Or.inr ⟨b1, ?_⟩
            have : c ≠ i := by
              rintro rfl
              apply hyx
              rw [← b1]
              exact r.2.2.2.2
            omega
  · unfold chS
    rw [if_neg hcond, h y c hy hc]
    constructor
    · exact hmono
    · rintro (q | ⟨z, l', a, b, r⟩)
      · exact Or.inl q
      · refine Or.inr ⟨z, l', a, ?_, r⟩
        rcases b with b | ⟨b1, b2⟩
        · exact Or.inl b
        · refine Or.inr ⟨b1, ?_⟩
          have : c ≠ i := by
            rintro rfl
            apply hcond
            rw [← b1]
            refine ⟨r.2.1, ?_⟩
            rw [b1]
            exact key.mpr ⟨l', by rw [← b1]; exact a, r.2.2.2.1⟩
          omega
theorem Pre_I {can : Gr} {n x : Nat} {tk : Row} (hn : n ≤ 7) (ht : TkOk can n tk) (hx : x < 2 ^ n) : ∀ (k : Nat) (R : Row), k ≤ n → (lo x < n - k ∨ k = 0) → Pre can n x (n - k) R → Pre can n x n (chI tk n x k R)
  | 0, R, _, _, h => by rw [chI]; exact h
  | k + 1, R, hk, hl, h => by
    rw [chI]
    have hl2 : lo x < n - (k + 1) := by omega
    have h2 := Pre_s hn ht hx (i := n - (k + 1)) (by omega) hl2 h
    rw [show n - (k + 1) + 1 = n - k by omega] at h2
    exact Pre_I hn ht hx k _ (by omega) (by omega) h2
theorem Pre_O {can : Gr} {n : Nat} {tk : Row} (hn : n ≤ 7) (ht : TkOk can n tk) : ∀ (k : Nat) (R : Row), k ≤ 2 ^ n → Pre can n (2 ^ n - k) 0 R → Pre can n (2 ^ n) 0 (chO tk n (2 ^ n) k R)
  | 0, R, _, h => by rw [chO]; exact h
  | k + 1, R, hk, h => by
    rw [chO]
    generalize hx : 2 ^ n - (k + 1) = x at *
    have hk2 : 2 ^ n - k = x + 1 := by omega
    have h1 : Pre can n x (n - (n - (lo x + 1))) R := by
      intro y c hy hc
      rw [h y c hy hc]
      constructor
      · rintro (q | ⟨z, l', a, b, r⟩)
        · exact Or.inl q
        · exact Or.inr ⟨z, l', a, by omega, r⟩
      · rintro (q | ⟨z, l', a, b, r⟩)
        · exact Or.inl q
        · refine Or.inr ⟨z, l', a, ?_, r⟩
          rcases b with b | ⟨b1, b2⟩
          · exact Or.inl b
          · exfalso
            have := r.2.2.1
            rw [b1] at this
            have := r.1
            omega
    have h2 := Pre_I hn ht (x := x) (by omega) (n - (lo x + 1)) R (by omega) (by omega) h1
    refine Pre_O hn ht k _ (by omega) ?_
    rw [hk2]
    intro y c hy hc
    rw [h2 y c hy hc]
    constructor
    · rintro (q | ⟨z, l', a, b, r⟩)
      · exact Or.inl q
      · exact Or.inr ⟨z, l', a, by omega, r⟩
    · rintro (q | ⟨z, l', a, b, r⟩)
      · exact Or.inl q
      · exact Or.inr ⟨z, l', a, by have := r.1; omega, r⟩
theorem Pre_sgl {can : Gr} {n : Nat} (hn : n ≤ 7) {R : Row} : Pre can n 1 0 (sgl n (rowN (fun _ => 0) 128 R)) := by
  intro y c hy hc
  have hp := p2_le hn
  rw [sgl_ok hn n (Nat.le_refl _) y (by omega)]
  by_cases h : ∃ i, i < n ∧ y = 2 ^ i
  · rw [if_pos h]
    obtain ⟨i, hi, he⟩ := h
    rw [bit_nI hc, he, Nat.testBit_two_pow, decide_eq_true_eq]
    constructor
    · rintro rfl
      exact Or.inl ⟨hi, rfl⟩
    · rintro (⟨q1, q2⟩ | ⟨z, l', a, b, r⟩)
      · exact (Nat.pow_right_inj (by decide)).mp q2
      · have := Ch_ne a
        omega
  · rw [if_neg h, rowN_at, if_pos (by omega), bit_zero]
    constructor
    · intro q; cases q
    · rintro (⟨q1, q2⟩ | ⟨z, l', a, b, r⟩)
      · exact absurd ⟨c, q1, q2⟩ h
      · have := Ch_ne a
        omega
/-- the last ones of the chains -/
theorem lo_bits {can : Gr} {n : Nat} {tk R : Row} (hn : n ≤ 7) (ht : TkOk can n tk) {y c : Nat} (hy : y < 2 ^ n) (hc : c < 32) : bitI (chO tk n (2 ^ n) (2 ^ n - 1) (sgl n (rowN (fun _ => 0) 128 R)) y) c = true ↔ Ch can n y c := by
  have hp : 0 < 2 ^ n := Nat.two_pow_pos n
  have h := Pre_O hn ht (2 ^ n - 1) (sgl n (rowN (fun _ => 0) 128 R)) (by omega) (by rw [show 2 ^ n - (2 ^ n - 1) = 1 by omega]; exact Pre_sgl hn)
  rw [h y c hy hc]
  exact ⟨ChB_Ch, fun q => Ch_ChB hn q (by omega)⟩
