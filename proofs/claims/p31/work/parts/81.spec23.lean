def cs (v : Nat → Nat) : Nat → Nat
  | 0 => 0
  | k + 1 => sb (cs v k) (v k)
theorem tb_cs {v : Nat → Nat} {t : Nat} : ∀ k, ((cs v k).testBit t = true ↔ ∃ j, j < k ∧ v j = t)
  | 0 => by
    rw [cs]
    simp
  | k + 1 => by
    rw [cs, tb_sb, Bool.or_eq_true, tb_cs k, decide_eq_true_eq]
    constructor
    · rintro (⟨j, hj, h⟩ | h)
      · exact ⟨j, by omega, h⟩
      · exact ⟨k, by omega, h.symm⟩
    · rintro ⟨j, hj, h⟩
      by_cases hjk : j = k
      · subst hjk; exact Or.inr h.symm
      · exact Or.inl ⟨j, by omega, h⟩
theorem cs_Ch {can : Gr} {n k : Nat} {v : Nat → Nat} (hn : n ≤ 7) (hv : ∀ i, i < k → v i < n) (hj : ∀ i j, i < k → j < k → v i = v j → i = j) (hm : ∀ i, i < k → v 0 ≤ v i) (hc : ∀ i, i + 1 < k → can (v i) (v (i + 1)) = true) : ∀ i, i < k → Ch can n (cs v (i + 1)) (v i) ∧ cb (cs v (i + 1)) 7 = i + 1 ∧ lo (cs v (i + 1)) = v 0 := by
  have hp := p2_le hn
  intro i
  induction i with
  | zero =>
    intro h0
    have e : cs v (0 + 1) = 2 ^ v 0 := by
      rw [cs, cs]
      unfold sb
      exact Nat.zero_or _
    have := hv 0 h0
    rw [e]
    exact ⟨Ch_one this, cb_one (by omega), lo_p2 (by omega)⟩
  | succ i ih =>
    intro hi
    obtain ⟨h1, h2, h3⟩ := ih (by omega)
    have hb : (cs v (i + 1)).testBit (v (i + 1)) = false := by
      cases hb : (cs v (i + 1)).testBit (v (i + 1)) with
      | false => rfl
      | true =>
        obtain ⟨j, q1, q2⟩ := (tb_cs (i + 1)).mp hb
        have := hj j (i + 1) (by omega) hi q2
        omega
    have hlt := hv (i + 1) hi
    have hx := (Ch_lt h1).1
    have hlo : lo (cs v (i + 1)) < v (i + 1) := by
      rw [h3]
      have h4 := hm (i + 1) hi
      have : v 0 ≠ v (i + 1) := fun q => by
        have := hj 0 (i + 1) (by omega) hi q
        omega
      omega
    rw [cs]
    exact ⟨Ch_more h1 hlt hb hlo (hc i hi), by rw [cb_sb (by omega) (by omega) hb, h2], by rw [lo_sb (by omega) (by omega) (Ch_ne h1) hlo, h3]⟩
theorem Bq_split {can : Gr} {n L y : Nat} (hn : n ≤ 7) (hy : y < 2 ^ n) (h0 : y ≠ 0) (hirr : ∀ t, can t t = false) (hB : Bq can n L y) : ∃ c, Cq can n L c ∧ (∀ t, c.testBit t = true → y.testBit t = true) ∧ c.testBit (lo y) = true ∧ Bq can n L (y ^^^ c) := by
  have hp := p2_le hn
  obtain ⟨p, ⟨h1, h2⟩, hS⟩ := hB
  have hyl := lo_in (by omega) h0
  have hml := tb_lt hy hyl
  generalize hm : lo y = m at *
  have hc : ∀ x, Sp p n x → Sp p n (fw p x) := by
    rintro x ⟨hx, w, hw⟩
    rw [fw_of hw]
    obtain ⟨a, _, c, _⟩ := h1 x w hx hw
    exact ⟨a, c⟩
  have hj : ∀ x y, Sp p n x → Sp p n y → fw p x = fw p y → x = y := by
    rintro x y ⟨hx, x', hx'⟩ ⟨hy, y', hy'⟩ h
    rw [fw_of hx', fw_of hy'] at h
    subst h
    exact h2 x y x' hx hy hx' hy'
  have hSm : Sp p n m := ⟨hml, (hS m hml).mp hyl⟩
  have hSi : ∀ i, Sp p n (itF p i m) := fun i => itF_Sp hc i m hSm
  obtain ⟨g, hg⟩ := hSm.2
  obtain ⟨_, _, _, j0, hj0, hj1⟩ := h1 m g hml hg
  obtain ⟨k1, hk1, hk2, hk3⟩ := least_of (P := fun d => itF p (d + 1) m = m) j0 (by show itF p (j0 + 1) m = m; rw [itF, fw_of hg]; exact hj1)
  have hk2' : itF p (k1 + 1) m = m := hk2
  have hcan : ∀ i, can (itF p i m) (itF p (i + 1) m) = true := fun i => by
    obtain ⟨a, w, hw⟩ := hSi i
    have e : itF p (i + 1) m = w := by
      rw [itF_add, itF, itF, fw_of hw]
    rw [e]
    exact (h1 _ w a hw).2.1
  have hinj : ∀ i j, i < k1 + 1 → j < k1 + 1 → itF p i m = itF p j m → i = j := by
    have hz : ∀ i j, i < j → j < k1 + 1 → itF p i m = itF p j m → False := by
      intro i j hij hjk q
      rw [show j = (j - i) + i by omega, itF_add] at q
      have q2 := it_inj hc hj i _ _ hSm (hSi _) q
      exact hk3 (j - i - 1) (by omega) (by show itF p (j - i - 1 + 1) m = m; rw [show j - i - 1 + 1 = j - i by omega]; exact q2.symm)
    intro i j hi hjj q
    by_cases hij : i < j
    · exact (hz i j hij hjj q).elim
    · by_cases hji : j < i
      · exact (hz j i hji hi q.symm).elim
      · omega
  have hyb : ∀ i, y.testBit (itF p i m) = true := fun i => (hS _ (hSi i).1).mpr (hSi i).2
  have hmin : ∀ i, m ≤ itF p i m := fun i => by have := (lo_least (x := y) (by omega) (hyb i)).1; omega
  obtain ⟨q1, q2, q3⟩ := cs_Ch (can := can) (k := k1 + 1) (v := fun i => itF p i m) hn (fun i _ => (hSi i).1) hinj (fun i _ => hmin i) (fun i _ => hcan i) k1 (by omega)
  have hk0 : k1 ≠ 0 := by
    rintro rfl
    have := hcan 0
    rw [hk2'] at this
    rw [itF, hirr] at this
    cases this
  generalize hcc : cs (fun i => itF p i m) (k1 + 1) = c at *
  have hct : ∀ t, c.testBit t = true ↔ ∃ j, j < k1 + 1 ∧ itF p j m = t := fun t => by rw [← hcc]; exact tb_cs (k1 + 1)
  refine ⟨c, ⟨by omega, by omega, itF p k1 m, q1, ?_⟩, fun t ht => ?_, (hct m).mpr ⟨0, by omega, rfl⟩, ?_⟩
  · rw [q3]
    show can (itF p k1 m) m = true
    have := hcan k1
    rw [hk2'] at this
    exact this
  · obtain ⟨j, _, rfl⟩ := (hct t).mp ht
    exact hyb j
  · have hback : ∀ t g, Sp p n t → p t = some g → c.testBit g = true → c.testBit t = true := by
      intro t g ht hg hgc
      obtain ⟨j, hj1, rfl⟩ := (hct g).mp hgc
      have e : ∃ i, i < k1 + 1 ∧ fw p (itF p i m) = itF p j m := by
        cases j with
        | zero => exact ⟨k1, by omega, by rw [itF]; rw [itF_add, itF, itF] at hk2'; exact hk2'⟩
        | succ j => exact ⟨j, by omega, by rw [itF_add, itF, itF]⟩
      obtain ⟨i, hi, he⟩ := e
      have := hj t (itF p i m) ht (hSi i) (by rw [fw_of hg, he])
      exact (hct t).mpr ⟨i, hi, this.symm⟩
    let r : Asg := fun t => if c.testBit t = true then none else p t
    have hr : ∀ t, c.testBit t = false → r t = p t := fun t ht => by
      show (if c.testBit t = true then none else p t) = p t
      rw [if_neg (by rw [ht]; decide)]
    have hr0 : ∀ t g, r t = some g → c.testBit t = false ∧ p t = some g := fun t g h => by
      have h' : (if c.testBit t = true then none else p t) = some g := h
      by_cases q : c.testBit t = true
      · rw [if_pos q] at h'; cases h'
      · rw [if_neg q] at h'
        exact ⟨by simpa using q, h'⟩
    have hout : ∀ t g, t < n → c.testBit t = false → p t = some g → c.testBit g = false := fun t g ht h1 h2 => by
      cases hb : c.testBit g with
      | false => rfl
      | true =>
        have := hback t g ⟨ht, g, h2⟩ h2 hb
        rw [h1] at this
        cases this
    refine ⟨r, ⟨fun t g ht hg => ?_, fun t u g ht hu a b => h2 t u g ht hu (hr0 t g a).2 (hr0 u g b).2⟩, fun t ht => ?_⟩
    · obtain ⟨a, b⟩ := hr0 t g hg
      obtain ⟨b1, b2, b3, j, b4, b5⟩ := h1 t g ht b
      have hgc := hout t g ht a b
      have hS1 : ∀ x, (Sp p n x ∧ c.testBit x = false) → (Sp p n (fw p x) ∧ c.testBit (fw p x) = false) := by
        rintro x ⟨hx, hxc⟩
        refine ⟨hc x hx, ?_⟩
        obtain ⟨w, hw⟩ := hx.2
        rw [fw_of hw]
        exact hout x w hx.1 hxc hw
      have hcg := itF_congr (p := p) (q := r) hS1 (fun x hx => (hr x hx.2).symm) j g ⟨⟨b1, b3⟩, hgc⟩
      exact ⟨b1, b2, by rw [hr g hgc]; exact b3, j, b4, by rw [← hcg]; exact b5⟩
    · rw [Nat.testBit_xor]
      constructor
      · intro q
        cases hb : c.testBit t with
        | true =>
          exfalso
          have hyt : y.testBit t = true := by
            obtain ⟨j, _, rfl⟩ := (hct t).mp hb
            exact hyb j
          rw [hb, hyt] at q
          cases q
        | false =>
          rw [hb, Bool.xor_false] at q
          rw [hr t hb]
          exact (hS t ht).mp q
      · rintro ⟨g, hg⟩
        obtain ⟨a, b⟩ := hr0 t g hg
        rw [a, (hS t ht).mpr ⟨g, b⟩]
        rfl
theorem Bq_zero {can : Gr} {n L : Nat} : Bq can n L 0 := by
  refine ⟨fun _ => none, ⟨fun t g _ h => ?_, fun t u g _ _ h _ => ?_⟩, fun t _ => ?_⟩
  · cases h
  · cases h
  · constructor
    · intro h; simp at h
    · rintro ⟨g, h⟩; cases h
