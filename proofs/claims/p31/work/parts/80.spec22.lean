theorem least_of {P : Nat → Prop} : ∀ n, P n → ∃ m, m ≤ n ∧ P m ∧ ∀ j, j < m → ¬ P j
  | 0, h => ⟨0, Nat.le_refl _, h, fun j hj => by omega⟩
  | n + 1, h => by
    by_cases hq : ∃ j, j < n + 1 ∧ P j
    · obtain ⟨j, hj, hP⟩ := hq
      have hz : ∀ d j, j ≤ d → P j → ∃ m, m ≤ j ∧ P m ∧ ∀ i, i < m → ¬ P i := by
        intro d
        induction d with
        | zero => intro j hj hP; exact ⟨j, Nat.le_refl _, hP, fun i hi => by omega⟩
        | succ d ih =>
          intro j hj hP
          by_cases h2 : ∃ i, i < j ∧ P i
          · obtain ⟨i, hi, hPi⟩ := h2
            obtain ⟨m, a, b, c⟩ := ih i (by omega) hPi
            exact ⟨m, by omega, b, c⟩
          · exact ⟨j, Nat.le_refl _, hP, fun i hi hPi => h2 ⟨i, hi, hPi⟩⟩
      obtain ⟨m, a, b, c⟩ := hz j j (Nat.le_refl _) hP
      exact ⟨m, by omega, b, c⟩
    · exact ⟨n + 1, Nat.le_refl _, h, fun j hj hP => hq ⟨j, hj, hP⟩⟩
def Cv (can : Gr) (x l k : Nat) (v : Nat → Nat) : Prop := v 0 = lo x ∧ v (k - 1) = l ∧ 0 < k ∧ (∀ i, i < k → x.testBit (v i) = true) ∧ (∀ t, x.testBit t = true → ∃ i, i < k ∧ v i = t) ∧ (∀ i j, i < k → j < k → v i = v j → i = j) ∧ ∀ i, i + 1 < k → can (v i) (v (i + 1)) = true
theorem lo_sb {x c : Nat} (hx : x < 128) (hc : c < 7) (h0 : x ≠ 0) (h : lo x < c) : lo (sb x c) = lo x := by
  refine lo_eq (Nat.or_lt_two_pow (n := 7) hx (Nat.pow_lt_pow_right (by decide) hc)) (by rw [tb_sb, lo_in hx h0]; rfl) (fun j hj => ?_)
  rw [tb_sb, Bool.or_eq_true, decide_eq_true_eq] at hj
  rcases hj with hj | rfl
  · exact (lo_least hx hj).1
  · omega
theorem lo_p2 {t : Nat} (h : t < 7) : lo (2 ^ t) = t := by
  have h1 : ∀ t : Fin 7, lo (2 ^ t.val) = t.val := by decide +kernel
  exact h1 ⟨t, h⟩
theorem Ch_v {can : Gr} {n x l : Nat} (hn : n ≤ 7) (h : Ch can n x l) : ∃ v, Cv can x l (cb x 7) v := by
  have hp := p2_le hn
  have hh := h (fun x l => Ch can n x l ∧ ∃ v, Cv can x l (cb x 7) v) (fun t ht => ⟨Ch_one ht, fun _ => t, by
    rw [cb_one (by omega)]
    refine ⟨(lo_p2 (t := t) (by omega)).symm, rfl, by decide, fun i hi => by simp, fun j hj => ⟨0, by decide, ?_⟩, fun i j hi hj _ => by omega, fun i hi => by omega⟩
    rw [Nat.testBit_two_pow, decide_eq_true_eq] at hj
    exact hj⟩) (fun x l c hP h1 h2 h3 h4 => ⟨Ch_more hP.1 h1 h2 h3 h4, by
    obtain ⟨hC, v, a, b, k0, d, e, f, g⟩ := hP
    have hx := (Ch_lt hC).1
    have hne := Ch_ne hC
    rw [cb_sb (by omega) (by omega) h2]
    generalize hk : cb x 7 = k at *
    have hvi : ∀ i, i < k → v i ≠ c := fun i hi q => by
      have := d i hi
      rw [q, h2] at this
      cases this
    refine ⟨fun i => if i = k then c else v i, ?_, ?_, by omega, fun i hi => ?_, fun t ht => ?_, fun i j hi hj q => ?_, fun i hi => ?_⟩
    · show (if 0 = k then c else v 0) = _
      rw [if_neg (by omega), a, lo_sb (by omega) (by omega) hne h3]
    · show (if k + 1 - 1 = k then c else _) = c
      rw [if_pos (by omega)]
    · show (sb x c).testBit (if i = k then c else v i) = true
      rw [tb_sb]
      by_cases hik : i = k
      · rw [if_pos hik]; simp
      · rw [if_neg hik, d i (by omega)]; rfl
    · rw [tb_sb, Bool.or_eq_true, decide_eq_true_eq] at ht
      rcases ht with ht | rfl
      · obtain ⟨i, hi, hv⟩ := e t ht
        exact ⟨i, by omega, by show (if i = k then c else v i) = t; rw [if_neg (by omega)]; exact hv⟩
      · exact ⟨k, by omega, if_pos rfl⟩
    · have q' : (if i = k then c else v i) = (if j = k then c else v j) := q
      by_cases hik : i = k
      · by_cases hjk : j = k
        · omega
        · rw [if_pos hik, if_neg hjk] at q'
          exact absurd q'.symm (hvi j (by omega))
      · by_cases hjk : j = k
        · rw [if_neg hik, if_pos hjk] at q'
          exact absurd q' (hvi i (by omega))
        · rw [if_neg hik, if_neg hjk] at q'
          exact f i j (by omega) (by omega) q'
    · show can (if i = k then c else v i) (if i + 1 = k then c else v (i + 1)) = true
      rw [if_neg (by omega)]
      by_cases hik : i + 1 = k
      · rw [if_pos hik, show i = k - 1 by omega, b]
        exact h4
      · rw [if_neg hik]
        exact g i (by omega)⟩)
  exact hh.2
noncomputable def ixv (v : Nat → Nat) (k t : Nat) : Nat := @dite _ (∃ i, i < k ∧ v i = t) (Classical.propDecidable _) (fun h => Classical.choose h) (fun _ => 0)
theorem ixv_of {v : Nat → Nat} {k i : Nat} (hi : i < k) (hj : ∀ i j, i < k → j < k → v i = v j → i = j) : ixv v k (v i) = i := by
  have h : ∃ j, j < k ∧ v j = v i := ⟨i, hi, rfl⟩
  unfold ixv
  rw [@dif_pos _ (Classical.propDecidable _) h]
  obtain ⟨a, b⟩ := Classical.choose_spec h
  exact hj _ _ a hi b
theorem mod_s {i k : Nat} (h : i < k) : (i + 1) % k = if i + 1 = k then 0 else i + 1 := by
  by_cases q : i + 1 = k
  · rw [if_pos q, q, Nat.mod_self]
  · rw [if_neg q]
    exact Nat.mod_eq_of_lt (by omega)
theorem Bq_union {can : Gr} {n L z c : Nat} (hn : n ≤ 7) (hc : c < 2 ^ n) (hC : Cq can n L c) (hB : Bq can n L z) (hd : ∀ t, z.testBit t = true → c.testBit t = false) : Bq can n L (z ||| c) := by
  obtain ⟨hC1, hC2, l, hCh, hcl⟩ := hC
  obtain ⟨v, a, b, k0, d, e, f, g⟩ := Ch_v hn hCh
  obtain ⟨r, ⟨hr1, hr2⟩, hS⟩ := hB
  generalize hk : cb c 7 = k at *
  have hnx : ∀ i, i < k → ∀ w, w = v ((ixv v k (v i) + 1) % k) → w = v ((i + 1) % k) := fun i hi w hw => by
    rw [hw, ixv_of hi f]
  have hml : ∀ i, (i + 1) % k < k := fun i => Nat.mod_lt _ k0
  let p : Asg := fun t => if c.testBit t = true then some (v ((ixv v k t + 1) % k)) else r t
  have hpc : ∀ i, i < k → p (v i) = some (v ((i + 1) % k)) := fun i hi => by
    show (if c.testBit (v i) = true then some (v ((ixv v k (v i) + 1) % k)) else r (v i)) = _
    rw [if_pos (d i hi), ixv_of hi f]
  have hpr : ∀ t, c.testBit t = false → p t = r t := fun t ht => by
    show (if c.testBit t = true then _ else r t) = r t
    rw [if_neg (by rw [ht]; decide)]
  have hit : ∀ j i, i < k → itF p j (v i) = v ((i + j) % k) := by
    intro j
    induction j with
    | zero => intro i hi; rw [itF, Nat.add_zero, Nat.mod_eq_of_lt hi]
    | succ j ih =>
      intro i hi
      rw [itF, fw_of (hpc i hi), ih _ (hml i), Nat.mod_add_mod]
      congr 2
      omega
  have hrs : ∀ t, t < n → (∃ g, r t = some g) → c.testBit t = false := fun t ht q => hd t ((hS t ht).mpr q)
  have hcv : ∀ t, c.testBit t = true → ∃ i, i < k ∧ v i = t := e
  have hcn : ∀ i, i < k → v i < n := fun i hi => tb_lt hc (d i hi)
  have hcan : ∀ i, i < k → can (v i) (v ((i + 1) % k)) = true := fun i hi => by
    rw [mod_s hi]
    by_cases q : i + 1 = k
    · rw [if_pos q, a, show i = k - 1 by omega, b]
      exact hcl
    · rw [if_neg q]
      exact g i (by omega)
  refine ⟨p, ⟨fun t w ht hw => ?_, fun t u w ht hu h1 h2 => ?_⟩, fun t ht => ?_⟩
  · by_cases htc : c.testBit t = true
    · obtain ⟨i, hi, rfl⟩ := hcv t htc
      rw [hpc i hi] at hw
      cases hw
      refine ⟨hcn _ (hml i), hcan i hi, ⟨_, hpc _ (hml i)⟩, k - 1, by omega, ?_⟩
      rw [hit _ _ (hml i), Nat.mod_add_mod, show i + 1 + (k - 1) = i + k by omega, Nat.add_mod_right, Nat.mod_eq_of_lt hi]
    · have htc' : c.testBit t = false := by simpa using htc
      rw [hpr t htc'] at hw
      obtain ⟨h1, h2, h3, j, hj, he⟩ := hr1 t w ht hw
      have hS1 : ∀ x, (x < n ∧ ∃ y, r x = some y) → (fw r x < n ∧ ∃ y, r (fw r x) = some y) := by
        rintro x ⟨hx, y, hy⟩
        rw [fw_of hy]
        obtain ⟨a1, _, a3, _⟩ := hr1 x y hx hy
        exact ⟨a1, a3⟩
      have hcg := itF_congr (p := r) (q := p) hS1 (fun x hx => (hpr x (hrs x hx.1 hx.2)).symm) j w ⟨h1, h3⟩
      obtain ⟨y, hy⟩ := h3
      exact ⟨h1, h2, ⟨y, by rw [hpr w (hrs w h1 ⟨y, hy⟩)]; exact hy⟩, j, hj, by rw [← hcg]; exact he⟩
  · have hout : ∀ t, t < n → c.testBit t = false → p t = some w → c.testBit w = false := fun t ht q1 q2 => by
      rw [hpr t q1] at q2
      obtain ⟨a1, _, a3, _⟩ := hr1 t w ht q2
      exact hrs w a1 a3
    have hin : ∀ t, c.testBit t = true → p t = some w → c.testBit w = true := fun t q1 q2 => by
      obtain ⟨i, hi, rfl⟩ := hcv t q1
      rw [hpc i hi] at q2
      cases q2
      exact d _ (hml i)
    by_cases htc : c.testBit t = true
    · by_cases huc : c.testBit u = true
      · obtain ⟨i, hi, rfl⟩ := hcv t htc
        obtain ⟨j, hj, rfl⟩ := hcv u huc
        rw [hpc i hi] at h1
        rw [hpc j hj] at h2
        cases h1
        have h3 := f _ _ (hml j) (hml i) (Option.some.inj h2)
        rw [mod_s hi, mod_s hj] at h3
        have : i = j := by
          split at h3 <;> split at h3 <;> omega
        rw [this]
      · have huc' : c.testBit u = false := by simpa using huc
        have h3 := hin t htc h1
        rw [hout u hu huc' h2] at h3
        cases h3
    · have htc' : c.testBit t = false := by simpa using htc
      by_cases huc : c.testBit u = true
      · have h3 := hin u huc h2
        rw [hout t ht htc' h1] at h3
        cases h3
      · have huc' : c.testBit u = false := by simpa using huc
        rw [hpr t htc'] at h1
        rw [hpr u huc'] at h2
        exact hr2 t u w ht hu h1 h2
  · rw [Nat.testBit_or, Bool.or_eq_true]
    by_cases htc : c.testBit t = true
    · obtain ⟨i, hi, rfl⟩ := hcv t htc
      exact ⟨fun _ => ⟨_, hpc i hi⟩, fun _ => Or.inr htc⟩
    · have htc' : c.testBit t = false := by simpa using htc
      rw [hpr t htc', hS t ht]
      constructor
      · rintro (q | q)
        · exact q
        · exact absurd q htc
      · exact Or.inl
