theorem b2i_ne {b : Bool} : ¬ b2i b = 0 ↔ b = true := by cases b <;> decide
/-- a set is made of circles: as the class looks it up -/
theorem mcB_iff {can : Gr} {n L : Nat} {C B : Row} {y : Nat} (hn : n ≤ 7) (hy : y < 2 ^ n) (h0 : y ≠ 0) (hirr : ∀ t, can t t = false) (hC : ∀ c, 1 ≤ c → c < 2 ^ n → (¬ C c = 0 ↔ Cq can n L c)) (hB : ∀ z, z < y → (¬ B z = 0 ↔ Bq can n L z)) : mcB C B y = true ↔ Bq can n L y := by
  have hp := p2_le hn
  obtain ⟨e1, e2⟩ := others (x := y) (by omega) h0
  have hly := lo_in (x := y) (by omega) h0
  unfold mcB
  rw [e1]
  have ho7 : y &&& (y - 1) < 128 := and_lt7 (by omega)
  have hoy : y &&& (y - 1) < 2 ^ n := Nat.lt_of_le_of_lt Nat.and_le_left hy
  generalize ho : y &&& (y - 1) = o at *
  rw [mcL_iff ho7 128 o ho7 ho7 (Nat.and_self o)]
  have hl2 : 2 ^ lo y < 2 ^ n := Nat.pow_lt_pow_right (by decide) (tb_lt hy hly)
  constructor
  · rintro ⟨q, q0, q1, q2, q3, q4⟩
    have hqo : ∀ t, q.testBit t = true → o.testBit t = true := fun t ht => by
      rw [← q2, Nat.testBit_and, Bool.and_eq_true] at ht
      exact ht.2
    have hclt : 2 ^ lo y ||| q < 2 ^ n := Nat.or_lt_two_pow hl2 (by omega)
    have hc1 : 1 ≤ 2 ^ lo y ||| q := by
      have := Nat.left_le_or (n := 2 ^ lo y) (m := q)
      have := Nat.two_pow_pos (lo y)
      omega
    have hz : o ^^^ q < y := by
      have hle : o ^^^ q < y := by
        have h1 : (o ^^^ q) ≤ o := by
          have : o ^^^ q = o &&& (o ^^^ q) := by
            apply Nat.eq_of_testBit_eq
            intro t
            rw [Nat.testBit_and, Nat.testBit_xor]
            cases h1 : o.testBit t with
            | true => simp
            | false =>
              cases h2 : q.testBit t with
              | false => rfl
              | true =>
                have := hqo t h2
                rw [h1] at this
                cases this
          rw [this]
          exact Nat.and_le_left
        have h2 : o < y := by
          rw [← ho]
          have := Nat.and_le_right (n := y) (m := y - 1)
          omega
        omega
      exact hle
    have hu := Bq_union hn hclt ((hC _ hc1 hclt).mp q3) ((hB _ hz).mp q4) (fun t ht => by
      rw [Nat.testBit_xor] at ht
      rw [Nat.testBit_or, Nat.testBit_two_pow]
      have h5 := e2 t
      cases h1 : q.testBit t with
      | true =>
        have := hqo t h1
        rw [h1, this] at ht
        cases ht
      | false =>
        rw [h1, Bool.xor_false] at ht
        rw [ht] at h5
        have h6 := h5.symm
        rw [Bool.and_eq_true, decide_eq_true_eq] at h6
        simp
        exact fun z => h6.2 z.symm)
    have hyy : (o ^^^ q) ||| (2 ^ lo y ||| q) = y := by
      apply Nat.eq_of_testBit_eq
      intro t
      rw [Nat.testBit_or, Nat.testBit_xor, Nat.testBit_or, Nat.testBit_two_pow]
      have h5 := e2 t
      by_cases htl : lo y = t
      · rw [htl] at hly
        simp [htl, hly]
      · have : ¬ t = lo y := fun z => htl z.symm
        simp [this] at h5
        cases h1 : q.testBit t with
        | true =>
          have := hqo t h1
          rw [h5] at this
          simp [this]
        | false => simp [htl, h5]
    rw [hyy] at hu
    exact hu
  · intro hb
    obtain ⟨c, hCq, hcy, hcl, hr⟩ := Bq_split hn hy h0 hirr hb
    have hclt : c < 2 ^ n := by
      obtain ⟨_, _, l, hCh, _⟩ := hCq
      exact (Ch_lt hCh).1
    have hc0 : 1 ≤ c := by
      obtain ⟨_, _, l, hCh, _⟩ := hCq
      have := Ch_ne hCh
      omega
    have ht : ∀ t, (c &&& o).testBit t = (c.testBit t && decide (t ≠ lo y)) := fun t => by
      rw [Nat.testBit_and, e2]
      cases h1 : c.testBit t with
      | false => rfl
      | true => rw [hcy t h1]; rfl
    have hlq : 2 ^ lo y ||| (c &&& o) = c := by
      apply Nat.eq_of_testBit_eq
      intro t
      rw [Nat.testBit_or, ht, Nat.testBit_two_pow]
      by_cases htl : lo y = t
      · rw [htl] at hcl
        simp [htl, hcl]
      · have : ¬ t = lo y := fun z => htl z.symm
        simp [htl, this]
    have hoq : o ^^^ (c &&& o) = y ^^^ c := by
      apply Nat.eq_of_testBit_eq
      intro t
      rw [Nat.testBit_xor, Nat.testBit_xor, ht, e2]
      by_cases htl : t = lo y
      · subst htl
        simp [hcl, hly]
      · simp [htl]
    have hq0 : c &&& o ≠ 0 := by
      intro h
      rw [h, Nat.or_zero] at hlq
      obtain ⟨h1, _⟩ := hCq
      rw [← hlq, cb_one (by have := tb_lt hy hly; omega)] at h1
      omega
    have hz : y ^^^ c < y := by
      have h1 : (y ^^^ c) = (o &&& (y ^^^ c)) := by
        rw [← hoq]
        apply Nat.eq_of_testBit_eq
        intro t
        rw [Nat.testBit_and, Nat.testBit_xor, Nat.testBit_and]
        cases o.testBit t <;> simp
      have h2 : o < y := by
        rw [← ho]
        have := Nat.and_le_right (n := y) (m := y - 1)
        omega
      have h3 := Nat.and_le_left (n := o) (m := y ^^^ c)
      omega
    refine ⟨c &&& o, by omega, Nat.and_le_right, by rw [Nat.and_assoc, Nat.and_self], ?_, ?_⟩
    · rw [hlq]
      exact (hC c hc0 hclt).mpr hCq
    · rw [hoq]
      exact (hB _ hz).mpr hr
theorem btO_ok {can : Gr} {n L : Nat} {C : Row} (hn : n ≤ 7) (hirr : ∀ t, can t t = false) (hC : ∀ c, 1 ≤ c → c < 2 ^ n → (¬ C c = 0 ↔ Cq can n L c)) : ∀ (k a : Nat) (B : Row), k < 2 ^ n → a ≤ 7 → (∀ z, z < 2 ^ n - k → (¬ B z = 0 ↔ Bq can n L z)) → (∀ z, z < 2 ^ n - k → Bq can n L z → cb z 7 ≤ a) → (∃ z, z < 2 ^ n ∧ Bq can n L z ∧ cb z 7 = a) → ∃ b, b ≤ 7 ∧ (btO C (2 ^ n) k (nI a) B).1 = nI b ∧ (∀ z, z < 2 ^ n → Bq can n L z → cb z 7 ≤ b) ∧ ∃ z, z < 2 ^ n ∧ Bq can n L z ∧ cb z 7 = b
  | 0, a, B, _, ha, _, h2, h3 => by
    rw [btO]
    exact ⟨a, ha, rfl, fun z hz => h2 z (by omega), h3⟩
  | k + 1, a, B, hk, ha, h1, h2, h3 => by
    have hp := p2_le hn
    rw [btO]
    generalize hx : 2 ^ n - (k + 1) = x at *
    have hxk : 2 ^ n - k = x + 1 := by omega
    have hm := mcB_iff (y := x) hn (by omega) (by omega) hirr hC h1
    obtain ⟨e1, e2⟩ := bc_cb (x := x) (by omega)
    have hB' : ∀ b : Bool, (b = true ↔ Bq can n L x) → ∀ z, z < 2 ^ n - k → (¬ upd B x (b2i b) z = 0 ↔ Bq can n L z) := fun b hb z hz => by
      unfold upd
      by_cases hzx : z = x
      · rw [if_pos hzx, b2i_ne, hb, hzx]
      · rw [if_neg hzx]
        exact h1 z (by omega)
    by_cases hb : mcB C B x = true
    · rw [if_pos hb, hb, e1]
      have hbq := hm.mp hb
      by_cases hlt : a < cb x 7
      · rw [if_pos (nI_lt hlt (by omega))]
        exact btO_ok hn hirr hC k (cb x 7) _ (by omega) e2 (hB' true (by rw [← hm, hb])) (fun z hz hq => by
          by_cases hzx : z = x
          · rw [hzx]; exact Nat.le_refl _
          · have := h2 z (by omega) hq
            omega) ⟨x, by omega, hbq, rfl⟩
      · rw [if_neg (nI_nlt (by omega) (by omega))]
        exact btO_ok hn hirr hC k a _ (by omega) ha (hB' true (by rw [← hm, hb])) (fun z hz hq => by
          by_cases hzx : z = x
          · rw [hzx]; omega
          · exact h2 z (by omega) hq) h3
    · have hb' : mcB C B x = false := by simpa using hb
      rw [if_neg hb, hb']
      exact btO_ok hn hirr hC k a _ (by omega) ha (hB' false (by rw [← hm, hb'])) (fun z hz hq => by
        by_cases hzx : z = x
        · subst hzx
          exact absurd (hm.mpr hq) hb
        · exact h2 z (by omega) hq) h3
def sup (p : Asg) : Nat → Nat
  | 0 => 0
  | k + 1 => if (p k).isSome = true then sb (sup p k) k else sup p k
theorem tb_sup {p : Asg} {t : Nat} : ∀ k, (sup p k).testBit t = true ↔ (t < k ∧ ∃ g, p t = some g)
  | 0 => by
    rw [sup]
    simp
  | k + 1 => by
    rw [sup]
    by_cases h : (p k).isSome = true
    · rw [if_pos h, tb_sb, Bool.or_eq_true, tb_sup k, decide_eq_true_eq]
      constructor
      · rintro (⟨a, b⟩ | rfl)
        · exact ⟨by omega, b⟩
        · exact ⟨by omega, Option.isSome_iff_exists.mp h⟩
      · rintro ⟨a, b⟩
        by_cases htk : t = k
        · exact Or.inr htk
        · exact Or.inl ⟨by omega, b⟩
    · rw [if_neg h, tb_sup k]
      constructor
      · rintro ⟨a, b⟩
        exact ⟨by omega, b⟩
      · rintro ⟨a, b⟩
        by_cases htk : t = k
        · subst htk
          exact absurd (Option.isSome_iff_exists.mpr b) h
        · exact ⟨by omega, b⟩
theorem sup_lt {p : Asg} {n : Nat} : ∀ k, k ≤ n → sup p k < 2 ^ n
  | 0, _ => Nat.two_pow_pos n
  | k + 1, hk => by
    rw [sup]
    have := sup_lt (p := p) (n := n) k (by omega)
    split
    · exact sb_lt this (by omega)
    · exact this
theorem cb_sup {p : Asg} : ∀ k, k ≤ 7 → cb (sup p k) 7 = cnt p k
  | 0, _ => by rw [sup, cnt]; decide
  | k + 1, hk => by
    have ih := cb_sup (p := p) k (by omega)
    have hl := sup_lt (p := p) (n := 7) k (by omega)
    rw [sup, cnt]
    by_cases h : (p k).isSome = true
    · rw [if_pos h, if_pos h, cb_sb hl (by omega), ih]
      cases hb : (sup p k).testBit k with
      | false => rfl
      | true =>
        have := ((tb_sup k).mp hb).1
        omega
    · rw [if_neg h, if_neg h, ih]
      rfl
theorem Sup_sup {p : Asg} {n x : Nat} (hx : x < 2 ^ n) (h : Sup p n x) : x = sup p n := by
  apply Nat.eq_of_testBit_eq
  intro t
  apply Bool.eq_iff_iff.mpr
  rw [tb_sup]
  constructor
  · intro q
    have := tb_lt hx q
    exact ⟨this, (h t this).mp q⟩
  · rintro ⟨a, b⟩
    exact (h t a).mpr b
theorem DF_att {can : Gr} {n L : Nat} {f : Nat → Sst → Sst} (hf : ∀ c s, (∃ B, Val can n L B ∧ s.1 = cnt B n + 1) → ∃ B, Val can n L B ∧ (f c s).1 = cnt B n + 1) : ∀ (m c : Nat) (s : Sst), (∃ B, Val can n L B ∧ s.1 = cnt B n + 1) → ∃ B, Val can n L B ∧ (DF f m c s).1 = cnt B n + 1
  | 0, _, _, h => h
  | m + 1, c, s, h => by
    rw [DF]
    exact DF_att hf m (c + 1) _ (hf c s h)
theorem DD_att {can : Gr} {n L : Nat} : ∀ (k : Nat) (p : Asg) (s : Sst), (∃ B, Val can n L B ∧ s.1 = cnt B n + 1) → ∃ B, Val can n L B ∧ (DD can n L k p s).1 = cnt B n + 1
  | 0, p, s, h => by
    rw [DD]
    by_cases q : Val can n L p ∧ s.1 ≤ cnt p n
    · rw [leaf_n q.1 q.2]
      exact ⟨p, q.1, rfl⟩
    · rw [leaf_s (fun hV => by
        have : ¬ s.1 ≤ cnt p n := fun z => q ⟨hV, z⟩
        omega)]
      exact h
  | k + 1, p, s, h => by
    rw [DD]
    exact DF_att (f := fun c s => DD can n L k (setA p (n - (k + 1)) (opt n c)) s) (fun c s h => DD_att k _ s h) _ _ _ h
/-- the most traders of a barter -/
theorem most_ok {V : Row} {L : Nat} {C : Row} (hV : WF V) (hC : ∀ c, 1 ≤ c → c < 2 ^ nT V → (¬ C c = 0 ↔ Cq (canV V) (nT V) L c)) {B : Row} : (btO C (2 ^ nT V) (2 ^ nT V - 1) 0 (upd B 0 1)).1 = nI (bst V L).1 - 1 := by
  obtain ⟨hn, _⟩ := WF_n hV
  have hp : 0 < 2 ^ nT V := Nat.two_pow_pos _
  have h := btO_ok hn (fun t => can_irr t) hC (2 ^ nT V - 1) 0 (upd B 0 1) (by omega) (by omega) (fun z hz => by
    have : z = 0 := by omega
    subst this
    constructor
    · intro _; exact Bq_zero
    · intro _; simp [upd]) (fun z hz _ => by
    have : z = 0 := by omega
    subst this
    decide) ⟨0, hp, Bq_zero, by decide⟩
  obtain ⟨b, hb, e, h1, z, hz, hq, hz2⟩ := h
  have hb1 : (bst V L).1 = b + 1 := by
    rw [bst_bsr.1]
    obtain ⟨B, hB1, hB2⟩ := DD_att (can := canV V) (n := nT V) (L := L) (nT V) (fun _ => none) (1, fun _ => none) ⟨fun _ => none, Val_none, by
      have : cnt (fun _ => none) (nT V) = 0 := by
        have hz : ∀ m, cnt (fun _ => none) m = 0 := by
          intro m
          induction m with
          | zero => rfl
          | succ m ih => rw [cnt, ih]; rfl
        exact hz _
      rw [this]⟩
    have hB3 := h1 (sup B (nT V)) (sup_lt _ (Nat.le_refl _)) ⟨B, Val_VC.mp hB1, fun t ht => by rw [tb_sup]; exact ⟨fun q => q.2, fun q => ⟨ht, q⟩⟩⟩
    rw [cb_sup _ hn] at hB3
    obtain ⟨p, hp1, hp2⟩ := hq
    have hp3 := Sup_sup hz hp2
    rw [hp3, cb_sup _ hn] at hz2
    have hp4 := DD_hit (can := canV V) (n := nT V) (L := L) (nT V) (fun _ => none) (1, fun _ => none) p (Nat.le_refl _) (fun j hj => by omega) (Val_VC.mpr hp1)
    unfold bsr
    omega
  rw [hb1, ← nI_1]
  show (btO C (2 ^ nT V) (2 ^ nT V - 1) (nI 0) (upd B 0 1)).1 = nI b + 1 - 1
  rw [e]
  exact (Int32.add_sub_cancel _ _).symm
/-- the row of circles, as the class fills it -/
theorem cir_row {V : Row} {L : Nat} {tk LO : Row} {R W : Row} (hV : WF V) (hL : L ≤ 7) (ht : TkOk (canV V) (nT V) tk) (hLO : LO = chO tk (nT V) (2 ^ nT V) (2 ^ nT V - 1) (sgl (nT V) (rowN (fun _ => 0) 128 R))) : ∀ c, 1 ≤ c → c < 2 ^ nT V → (¬ ciR LO tk L (2 ^ nT V) W c = 0 ↔ Cq (canV V) (nT V) L c) := by
  intro c h1 h2
  obtain ⟨hn, _⟩ := WF_n hV
  have hp := p2_le hn
  obtain ⟨e1, e2⟩ := bc_cb (x := c) (by omega)
  have hln : lo c < nT V := tb_lt h2 (lo_in (by omega) (by omega))
  unfold ciR
  rw [if_pos ⟨h1, h2⟩, b2i_ne]
  unfold cirB Cq
  rw [Bool.and_eq_true, Bool.and_eq_true, decide_eq_true_eq, decide_eq_true_eq, decide_eq_true_eq, e1, and_bits]
  have hA : ¬ nI (cb c 7) < 2 ↔ 2 ≤ cb c 7 := by
    have h1 : ∀ c : Fin 8, ¬ nI c.val < 2 ↔ 2 ≤ c.val := by decide +kernel
    exact h1 ⟨cb c 7, by omega⟩
  rw [hA, nI_leI (by omega) (by omega)]
  constructor
  · rintro ⟨⟨a, b⟩, l, hl, q1, q2⟩
    rw [hLO, lo_bits hn ht h2 hl] at q1
    rw [ht _ hln l hl, Bool.and_eq_true] at q2
    exact ⟨a, b, l, q1, q2.2⟩
  · rintro ⟨a, b, l, q1, q2⟩
    have hl := (Ch_lt q1).2.1
    refine ⟨⟨a, b⟩, l, by omega, ?_, ?_⟩
    · rw [hLO, lo_bits hn ht h2 (by omega)]
      exact q1
    · rw [ht _ hln l (by omega), q2]
      simp [hl]
theorem tk_ok {V : Row} (hV : WF V) {W : Row} : TkOk (canV V) (nT V) (tkR V (nT V) 0 W) := by
  intro g hg t ht
  obtain ⟨hn, _⟩ := WF_n hV
  unfold tkR
  rw [if_pos hg, if_neg (by omega), bit_msk ht _ (by omega)]
