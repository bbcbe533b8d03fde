/-! the texts: faults on both sides -/
theorem stp_0 {lw c : Int32} : stp 0 lw c = if 48 ≤ c ∧ c ≤ 53 then some (1, lw) else none := by
  unfold stp
  by_cases h : 48 ≤ c ∧ c ≤ 53
  · rw [if_pos ⟨rfl, h.1, h.2⟩, if_pos h]
  · rw [if_neg (fun q => h ⟨q.2.1, q.2.2⟩), if_neg (fun q => absurd q.1 (by decide)), if_neg (fun q => absurd q.1 (by decide)), if_neg (fun q => absurd q.1 (by decide)), if_neg h]
theorem stp_1 {lw c : Int32} : stp 1 lw c = if c = 62 then some (2, 48) else none := by
  unfold stp
  by_cases h : c = 62
  · rw [if_neg (fun q => absurd q.1 (by decide)), if_pos ⟨rfl, h⟩, if_pos h]
  · rw [if_neg (fun q => absurd q.1 (by decide)), if_neg (fun q => h q.2), if_neg (fun q => absurd q.1 (by decide)), if_neg (fun q => absurd q.1 (by decide)), if_neg h]
theorem stp_2 {lw c : Int32} : stp 2 lw c = if lw ≤ c ∧ c ≤ 53 then some (3, c + 1) else none := by
  unfold stp
  by_cases h : lw ≤ c ∧ c ≤ 53
  · rw [if_neg (fun q => absurd q.1 (by decide)), if_neg (fun q => absurd q.1 (by decide)), if_pos ⟨by decide, h.1, h.2⟩, if_pos h]
  · rw [if_neg (fun q => absurd q.1 (by decide)), if_neg (fun q => absurd q.1 (by decide)), if_neg (fun q => h q.2), if_neg (fun q => absurd q.1 (by decide)), if_neg h]
theorem stp_3 {lw c : Int32} : stp 3 lw c = if lw ≤ c ∧ c ≤ 53 then some (3, c + 1) else if c = 44 then some (0, lw) else none := by
  unfold stp
  by_cases h : lw ≤ c ∧ c ≤ 53
  · rw [if_neg (fun q => absurd q.1 (by decide)), if_neg (fun q => absurd q.1 (by decide)), if_pos ⟨by decide, h.1, h.2⟩, if_pos h]
  · rw [if_neg (fun q => absurd q.1 (by decide)), if_neg (fun q => absurd q.1 (by decide)), if_neg (fun q => h q.2), if_neg h]
    by_cases h4 : c = 44
    · rw [if_pos ⟨rfl, h4⟩, if_pos h4]
    · rw [if_neg (fun q => h4 q.2), if_neg h4]
theorem ftC_s0 {P : Row} {n k i : Nat} {lw : Int32} : ftC P n (k + 1) i 0 lw = if 48 ≤ P i ∧ P i ≤ 53 then ftC P n k (i + 1) 1 lw else nI i := by
  rw [ftC, stp_0]
  by_cases h : 48 ≤ P i ∧ P i ≤ 53
  · rw [if_pos h, if_pos h]
  · rw [if_neg h, if_neg h]
theorem ftC_s1 {P : Row} {n k i : Nat} {lw : Int32} : ftC P n (k + 1) i 1 lw = if P i = 62 then ftC P n k (i + 1) 2 48 else nI i := by
  rw [ftC, stp_1]
  by_cases h : P i = 62
  · rw [if_pos h, if_pos h]
  · rw [if_neg h, if_neg h]
theorem ftC_s2 {P : Row} {n k i : Nat} {lw : Int32} : ftC P n (k + 1) i 2 lw = if lw ≤ P i ∧ P i ≤ 53 then ftC P n k (i + 1) 3 (P i + 1) else nI i := by
  rw [ftC, stp_2]
  by_cases h : lw ≤ P i ∧ P i ≤ 53
  · rw [if_pos h, if_pos h]
  · rw [if_neg h, if_neg h]
theorem ftC_s3 {P : Row} {n k i : Nat} {lw : Int32} : ftC P n (k + 1) i 3 lw = if lw ≤ P i ∧ P i ≤ 53 then ftC P n k (i + 1) 3 (P i + 1) else if P i = 44 then ftC P n k (i + 1) 0 lw else nI i := by
  rw [ftC, stp_3]
  by_cases h : lw ≤ P i ∧ P i ≤ 53
  · rw [if_pos h, if_pos h]
  · rw [if_neg h, if_neg h]
    by_cases h4 : P i = 44
    · rw [if_pos h4, if_pos h4]
    · rw [if_neg h4, if_neg h4]
theorem ftC_lw1 {P : Row} {n : Nat} {lw : Int32} : ∀ k i, ftC P n k i 1 lw = ftC P n k i 1 48
  | 0, _ => rfl
  | k + 1, i => by rw [ftC_s1, ftC_s1]
theorem ftC_lw {P : Row} {n : Nat} {lw : Int32} : ∀ k i, ftC P n k i 0 lw = ftC P n k i 0 48
  | 0, _ => rfl
  | k + 1, i => by rw [ftC_s0, ftC_s0, ftC_lw1]
def cont3 (P : Row) (n e : Nat) : Int32 := if e = n then -4 else if P e = 44 then ftC P n (n - e - 1) (e + 1) 0 48 else nI e
theorem dig_of {x : Int32} (h : 48 ≤ x) (h2 : x ≤ 53) : ∃ k, k < 6 ∧ x = nI (48 + k) := by
  have h0 : ¬ x < 0 := fun q => absurd (Int32.lt_of_le_of_lt h q) (by decide)
  obtain ⟨j, hj, rfl⟩ := nI_of h0
  have a := (nI_leI (a := 48) (b := j) (by decide) hj).mp h
  have b := (nI_leI (a := j) (b := 53) hj (by decide)).mp h2
  exact ⟨j - 48, by omega, by rw [show 48 + (j - 48) = j by omega]⟩
theorem dig_up {x : Int32} (h : 48 ≤ x) (h2 : x ≤ 53) : 48 ≤ x + 1 := by
  obtain ⟨k, hk, rfl⟩ := dig_of h h2
  rw [nI_1]
  exact nI_le (a := 48) (b := 48 + k + 1) (by omega) (by omega)
theorem ft_A3 {P : Row} {n : Nat} : ∀ (k i : Nat) (lw : Int32), i + k = n → 48 ≤ lw → ftC P n k i 3 lw = cont3 P n (wend P n k i lw)
  | 0, i, lw, hi, _ => by
    have : i = n := by omega
    rw [wend, cont3, if_pos this]
    rfl
  | k + 1, i, lw, hi, hl => by
    rw [ftC_s3, wend]
    by_cases h : lw ≤ P i ∧ P i ≤ 53
    · rw [if_pos h, if_pos h]
      exact ft_A3 k (i + 1) _ (by omega) (dig_up (Int32.le_trans hl h.1) h.2)
    · rw [if_neg h, if_neg h, cont3, if_neg (show ¬ i = n by omega)]
      by_cases h4 : P i = 44
      · rw [if_pos h4, if_pos h4, ftC_lw, show n - i - 1 = k by omega]
      · rw [if_neg h4, if_neg h4]
theorem ft_A2 {P : Row} {n : Nat} : ∀ (k i : Nat) (lw : Int32), i + k = n → 48 ≤ lw → ftC P n k i 2 lw = if wend P n k i lw = i then nI i else cont3 P n (wend P n k i lw)
  | 0, i, lw, hi, _ => by
    have : i = n := by omega
    rw [wend, if_pos rfl, this]
    rfl
  | k + 1, i, lw, hi, hl => by
    rw [ftC_s2, wend]
    by_cases h : lw ≤ P i ∧ P i ≤ 53
    · have := (wend_ge (P := P) (n := n) k (i + 1) (P i + 1)).1
      rw [if_pos h, if_pos h, if_neg (by omega)]
      exact ft_A3 k (i + 1) _ (by omega) (dig_up (Int32.le_trans hl h.1) h.2)
    · rw [if_neg h, if_neg h, if_pos rfl]
theorem ft_B {P : Row} {n : Nat} : ∀ (f i t : Nat), i ≤ n → n - i < f → ftC P n (n - i) i 0 48 = (ftR P n f i t).1
  | 0, _, _, _, h => absurd h (by omega)
  | f + 1, i, t, hi, hf => by
    rw [ftR, btE]
    by_cases hin : i < n
    · have e0 : chF P n i = P i := if_pos hin
      rw [e0, show n - i = (n - (i + 1)) + 1 by omega, ftC_s0]
      by_cases h0 : 48 ≤ P i ∧ P i ≤ 53
      · rw [if_pos h0, if_neg (fun q => q h0)]
        by_cases hin1 : i + 1 < n
        · have e1 : chF P n (i + 1) = P (i + 1) := if_pos hin1
          rw [e1, show n - (i + 1) = (n - (i + 2)) + 1 by omega, ftC_s1]
          by_cases h1 : P (i + 1) = 62
          · rw [if_pos h1, if_neg (fun q => q h1), ft_A2 _ _ _ (by omega) (Int32.le_refl _)]
            have hw := wend_ge (P := P) (n := n) (n - (i + 2)) (i + 2) 48
            by_cases h2 : wend P n (n - (i + 2)) (i + 2) 48 = i + 2
            · rw [if_pos h2, if_pos h2]
            · rw [if_neg h2, if_neg h2]
              generalize wend P n (n - (i + 2)) (i + 2) 48 = e at *
              show cont3 P n e = _
              unfold cont3
              by_cases hen : e < n
              · rw [if_neg (by omega)]
                show _ = (if e < n then (if P e = 44 then ftR P n f (e + 1) (t + 1) else (nI e, t + 1)) else (-4, t + 1)).1
                rw [if_pos hen]
                by_cases h4 : P e = 44
                · rw [if_pos h4, if_pos h4]
                  exact ft_B f (e + 1) (t + 1) (by omega) (by omega)
                · rw [if_neg h4, if_neg h4]
              · show _ = (if e < n then (if P e = 44 then ftR P n f (e + 1) (t + 1) else (nI e, t + 1)) else (-4, t + 1)).1
                rw [if_pos (by omega), if_neg hen]
          · rw [if_neg h1, if_pos h1]
        · have e1 : chF P n (i + 1) = 0 := if_neg hin1
          rw [e1, if_pos (by decide), show n - (i + 1) = 0 by omega]
          show nI n = nI (i + 1)
          rw [show n = i + 1 by omega]
      · rw [if_neg h0, if_pos h0]
    · have e0 : chF P n i = 0 := if_neg hin
      rw [e0, if_pos (by decide), show n - i = 0 by omega]
      show nI n = nI i
      rw [show n = i by omega]
/-! a text of traders as a list -/
def orb (P : Row) : Nat → Nat → Int32 → Int32
  | 0, _, w => w
  | k + 1, a, w => orb P k (a + 1) (w ||| 1 <<< ((P a - 48) &&& 31))
def sg (P : Row) (n : Nat) : Nat → Nat → Option (List (Int32 × Int32))
  | 0, _ => none
  | f + 1, i => match btE P n i with
    | .inl _ => none
    | .inr e => if e < n then (if P e = 44 then (sg P n f (e + 1)).map (fun l => (P i - 48, orb P (e - (i + 2)) (i + 2) 0) :: l) else none) else some [(P i - 48, orb P (e - (i + 2)) (i + 2) 0)]
theorem sg_ft {P : Row} {n : Nat} (hn : n ≤ 60) : ∀ (f i t : Nat), i ≤ n → n - i < f → (sg P n f i = none ∧ (ftR P n f i t).1 ≠ -4) ∨ ∃ l, sg P n f i = some l ∧ ftR P n f i t = (-4, t + l.length)
  | 0, _, _, _, h => absurd h (by omega)
  | f + 1, i, t, hi, hf => by
    obtain ⟨sp1, sp2⟩ := btE_spec (P := P) (n := n) (i := i)
    rw [ftR, sg]
    cases hb : btE P n i with
    | inl p =>
      have := (sp1 p hb).1
      left
      exact ⟨rfl, m4_nI (by omega)⟩
    | inr e =>
      have he := sp2 e hb
      show ((if e < n then _ else _) = none ∧ (if e < n then _ else _ : Int32 × Nat).1 ≠ -4) ∨ ∃ l, (if e < n then _ else _) = some l ∧ (if e < n then _ else _) = _
      by_cases hen : e < n
      · rw [if_pos hen, if_pos hen]
        by_cases h4 : P e = 44
        · rw [if_pos h4, if_pos h4]
          rcases sg_ft hn f (e + 1) (t + 1) (by omega) (by omega) with ⟨a, b⟩ | ⟨l, a, b⟩
          · left
            exact ⟨by rw [a]; rfl, b⟩
          · right
            refine ⟨_, by rw [a]; rfl, ?_⟩
            rw [b, List.length_cons]
            congr 1
            omega
        · rw [if_neg h4, if_neg h4]
          left
          exact ⟨rfl, m4_nI (by omega)⟩
      · rw [if_neg hen, if_neg hen]
        right
        exact ⟨_, rfl, rfl⟩
def clL (P : Row) (n : Nat) : Nat → Nat → List (Int32 × Int32)
  | 0, _ => []
  | k + 1, i => if P i = 62 then (P (i - 1) - 48, wbC P n (n - (i + 1)) (i + 1) 0) :: clL P n k (i + 1) else clL P n k (i + 1)
theorem clL_skip {P : Row} {n k : Nat} : ∀ (m i : Nat), (∀ j, i ≤ j → j < i + m → ¬ P j = 62) → clL P n (m + k) i = clL P n k (i + m)
  | 0, i, _ => by rw [Nat.zero_add]; rfl
  | m + 1, i, h => by
    rw [show m + 1 + k = (m + k) + 1 by omega, clL, if_neg (h i (by omega) (by omega)), clL_skip m (i + 1) (fun j a b => h j (by omega) (by omega)), show i + 1 + m = i + (m + 1) by omega]
theorem wend_in {P : Row} {n : Nat} : ∀ (k a : Nat) (lw : Int32), 48 ≤ lw → ∀ j, a ≤ j → j < wend P n k a lw → 48 ≤ P j ∧ P j ≤ 53
  | 0, a, lw, _, j, h1, h2 => by rw [wend] at h2; omega
  | k + 1, a, lw, hl, j, h1, h2 => by
    rw [wend] at h2
    by_cases h : lw ≤ P a ∧ P a ≤ 53
    · rw [if_pos h] at h2
      by_cases hj : j = a
      · subst hj
        exact ⟨Int32.le_trans hl h.1, h.2⟩
      · exact wend_in k (a + 1) _ (dig_up (Int32.le_trans hl h.1) h.2) j (by omega) h2
    · rw [if_neg h] at h2
      omega
theorem wbC_orb {P : Row} {n : Nat} : ∀ (m a : Nat) (w : Int32), a + m ≤ n → (∀ j, a ≤ j → j < a + m → ¬ P j = 44) → (a + m = n ∨ P (a + m) = 44) → wbC P n (n - a) a w = orb P m a w
  | 0, a, w, h1, _, h3 => by
    rw [orb]
    by_cases h : a < n
    · rw [show n - a = (n - a - 1) + 1 by omega, wbC, if_pos (show P a = 44 from h3.resolve_left (by omega))]
    · rw [show n - a = 0 by omega, wbC]
  | m + 1, a, w, h1, h2, h3 => by
    rw [orb, show n - a = (n - (a + 1)) + 1 by omega, wbC, if_neg (h2 a (by omega) (by omega))]
    exact wbC_orb m (a + 1) _ (by omega) (fun j x y => h2 j (by omega) (by omega)) (h3.imp (fun q => by omega) (fun q => by rw [show a + 1 + m = a + (m + 1) by omega]; exact q))
theorem orb_in {P : Row} : ∀ (m a : Nat) (w : Int32), vp_in w 64 → (∀ j, a ≤ j → j < a + m → 48 ≤ P j ∧ P j ≤ 53) → vp_in (orb P m a w) 64
  | 0, _, _, h, _ => h
  | m + 1, a, w, h, hj => by
    rw [orb]
    refine orb_in m (a + 1) _ ?_ (fun j x y => hj j (by omega) (by omega))
    obtain ⟨k, hk, e⟩ := dig_of (hj a (by omega) (by omega)).1 (hj a (by omega) (by omega)).2
    rw [e, show (48 : Int32) = nI 48 from rfl, pk_sub (by omega), Nat.add_sub_cancel_left]
    exact or_in h hk
theorem btE_inr {P : Row} {n i e : Nat} (h : btE P n i = .inr e) : i + 2 < e ∧ e ≤ n ∧ (48 ≤ P i ∧ P i ≤ 53) ∧ P (i + 1) = 62 ∧ ∀ j, i + 2 ≤ j → j < e → 48 ≤ P j ∧ P j ≤ 53 := by
  have h1 := (btE_spec (P := P) (n := n) (i := i)).2 e h
  unfold btE at h
  split at h
  · cases h
  · rename_i c0
    split at h
    · cases h
    · rename_i c1
      split at h
      · cases h
      · cases h
        have e0 : chF P n i = P i := if_pos (by omega)
        have e1 : chF P n (i + 1) = P (i + 1) := if_pos (by omega)
        rw [e0] at c0
        rw [e1] at c1
        exact ⟨h1.1, h1.2, Classical.not_not.mp c0, Classical.not_not.mp c1, fun j a b => wend_in _ _ _ (Int32.le_refl _) j a b⟩
def okE (x : Int32 × Int32) : Prop := vp_in x.1 6 ∧ vp_in x.2 64
theorem dig_ne {x : Int32} (h : 48 ≤ x ∧ x ≤ 53) : ¬ x = 62 ∧ ¬ x = 44 := by
  obtain ⟨k, hk, rfl⟩ := dig_of h.1 h.2
  exact ⟨fun q => absurd ((nI_eq (a := 48 + k) (b := 62) (by omega) (by decide)).mp q) (by omega), fun q => absurd ((nI_eq (a := 48 + k) (b := 44) (by omega) (by decide)).mp q) (by omega)⟩
theorem sg_cl {P : Row} {n : Nat} : ∀ (f i : Nat) (l : List (Int32 × Int32)), sg P n f i = some l → clL P n (n - i) i = l ∧ ∀ x ∈ l, okE x
  | 0, _, _, h => by cases h
  | f + 1, i, l, h => by
    rw [sg] at h
    cases hb : btE P n i with
    | inl p => rw [hb] at h; cases h
    | inr e =>
      obtain ⟨b1, b2, b3, b4, b5⟩ := btE_inr hb
      rw [hb] at h
      have h : (if e < n then (if P e = 44 then (sg P n f (e + 1)).map (fun l => (P i - 48, orb P (e - (i + 2)) (i + 2) 0) :: l) else none) else some [(P i - 48, orb P (e - (i + 2)) (i + 2) 0)]) = some l := h
      have hok : okE (P i - 48, orb P (e - (i + 2)) (i + 2) 0) := by
        constructor
        · obtain ⟨k, hk, q⟩ := dig_of b3.1 b3.2
          show vp_in (P i - 48) 6
          rw [q, show (48 : Int32) = nI 48 from rfl, pk_sub (by omega), Nat.add_sub_cancel_left]
          exact vp_in_nI hk (by decide)
        · exact orb_in _ _ _ (vp_in_nI (n := 0) (by decide) (by decide)) (fun j x y => b5 j x (by omega))
      have hend : e = n ∨ P e = 44 := by
        by_cases hen : e < n
        · rw [if_pos hen] at h
          by_cases h4 : P e = 44
          · exact Or.inr h4
          · rw [if_neg h4] at h; cases h
        · exact Or.inl (by omega)
      have c1 : clL P n (n - i) i = (P i - 48, orb P (e - (i + 2)) (i + 2) 0) :: clL P n (n - e) e := by
        have c2 := clL_skip (P := P) (n := n) (k := n - (i + 1)) 1 i (fun j x y => by rw [show j = i by omega]; exact (dig_ne b3).1)
        have c3 := clL_skip (P := P) (n := n) (k := n - e) (e - (i + 2)) (i + 2) (fun j x y => (dig_ne (b5 j x (by omega))).1)
        have c4 := wbC_orb (P := P) (n := n) (e - (i + 2)) (i + 2) 0 (by omega) (fun j x y => (dig_ne (b5 j x (by omega))).2) (by rw [show i + 2 + (e - (i + 2)) = e by omega]; exact hend)
        rw [show 1 + (n - (i + 1)) = n - i by omega] at c2
        rw [show e - (i + 2) + (n - e) = n - (i + 2) by omega, show i + 2 + (e - (i + 2)) = e by omega] at c3
        rw [c2, show n - (i + 1) = (n - (i + 2)) + 1 by omega, clL, if_pos b4, show i + 1 + 1 = i + 2 from rfl, show i + 1 - 1 = i from rfl, c3, c4]
      by_cases hen : e < n
      · rw [if_pos hen, if_pos (hend.resolve_left (by omega))] at h
        cases hs : sg P n f (e + 1) with
        | none => rw [hs] at h; cases h
        | some l' =>
          rw [hs] at h
          cases h
          obtain ⟨i1, i2⟩ := sg_cl f (e + 1) l' hs
          have c5 := clL_skip (P := P) (n := n) (k := n - (e + 1)) 1 e (fun j x y => by rw [show j = e by omega, hend.resolve_left (by omega)]; decide)
          rw [show 1 + (n - (e + 1)) = n - e by omega] at c5
          refine ⟨by rw [c1, c5, i1], fun x hx => ?_⟩
          rcases List.mem_cons.mp hx with rfl | hx
          · exact hok
          · exact i2 x hx
      · rw [if_neg hen] at h
        cases h
        refine ⟨by rw [c1, show n - e = 0 by omega]; rfl, fun x hx => ?_⟩
        rw [List.mem_singleton.mp hx]
        exact hok
theorem cl_len {P : Row} {n : Nat} : ∀ (k i : Nat), sumF (fun j => ind (P j = 62)) (i + k) = sumF (fun j => ind (P j = 62)) i + nI (clL P n k i).length
  | 0, i => by
    rw [clL]
    exact (Int32.add_zero _).symm
  | k + 1, i => by
    rw [show i + (k + 1) = (i + 1) + k by omega, cl_len (n := n) k (i + 1), sumF, clL]
    by_cases h : P i = 62
    · rw [if_pos h, List.length_cons, ← nI_1, show ind (P i = 62) = 1 from if_pos h]
      grind
    · rw [if_neg h, show ind (P i = 62) = 0 from if_neg h]
      grind
