/-! freshness -/
set_option maxRecDepth 100000 in
theorem fr_dec : ∀ (s : Fin 64) (m : Fin 8), m.val ≠ 0 → (FP.ddiv (FP.i2d (nI s.val)) (FP.i2d (nI m.val)) &&& 0x7fffffffffffffff ≤ 0x7ff0000000000000) ∧ FP.dcmp (FP.ddiv (FP.i2d (nI s.val)) (FP.i2d (nI m.val))) (FP.ddiv (FP.i2d (nI s.val)) (FP.i2d (nI m.val))) = some .eq := by decide +kernel
theorem fr_zero : FP.dcmp FP.dconst0 FP.dconst0 = some .eq := by decide +kernel
theorem dl_in {V : Row} (hG : Good V) {j : Nat} (hj : j < nT V) : ∃ x, x ≤ 9 ∧ dl V j = nI x := by
  unfold dl
  split
  · rename_i h
    have hk := kd_lt hG.1 hj
    obtain ⟨l, hl, e1⟩ := vp_in_of (hG.1.2.2.1 _ hk).1 (by decide)
    obtain ⟨a, ha, e2⟩ := vp_in_of (hG.2 j hj) (by decide)
    unfold dli at h ⊢
    rw [e1, e2] at h ⊢
    have h1 := pk_sub_toInt (a := l) (b := a) (by omega) (by omega)
    have h2 : (0 : Int32).toInt < (nI l - nI a).toInt := Int32.lt_iff_toInt_lt.mp h
    have h3 : (0 : Int32).toInt = 0 := by decide
    rw [h1, h3] at h2
    exact ⟨l - a, by omega, pk_sub (by omega)⟩
  · exact ⟨0, by omega, rfl⟩
theorem days_in {V : Row} (hG : Good V) : ∀ n, n ≤ nT V → ∃ x, x ≤ 9 * n ∧ sumF (fun t => dl V t) n = nI x
  | 0, _ => ⟨0, by omega, rfl⟩
  | n + 1, hn => by
    obtain ⟨x, hx, e⟩ := days_in hG n (by omega)
    obtain ⟨y, hy, e2⟩ := dl_in hG (j := n) (by omega)
    exact ⟨x + y, by omega, by rw [sumF, e, e2, nI_add]⟩
theorem sound_in {V : Row} : ∃ m, m ≤ nT V ∧ soundV V = nI m := by
  refine ⟨cnB (fun t => decide (0 < dli V t)) (nT V), cnB_le _, ?_⟩
  rw [← sumF_b2i]
  refine sumF_congr _ (fun t _ => ?_)
  by_cases h : 0 < dli V t <;> simp [ind, b2i, h]
noncomputable def frV (V : Row) : UInt64 := if 0 < soundV V then FP.ddiv (FP.i2d (daysV V)) (FP.i2d (soundV V)) else FP.dconst0
theorem fr_ok {V : Row} (hG : Good V) : (0 < soundV V → vf_n64 (FP.ddiv (FP.i2d (daysV V)) (FP.i2d (soundV V)))) ∧ FP.dcmp (frV V) (frV V) = some .eq ∧ (soundV V = 0 ↔ ¬ 0 < soundV V) := by
  have h7 := (WF_n hG.1).1
  obtain ⟨s, hs, e1⟩ := days_in hG (nT V) (Nat.le_refl _)
  obtain ⟨m, hm, e2⟩ := sound_in (V := V)
  have e1 : daysV V = nI s := e1
  have hz : soundV V = 0 ↔ ¬ 0 < soundV V := by
    rw [e2, show (0 : Int32) = nI 0 from rfl, nI_eq (by omega) (by decide), nI_ltI (by decide) (by omega)]
    omega
  have hpos : 0 < soundV V → m ≠ 0 := fun h q => by
    rw [e2, q] at h
    exact absurd h (by decide)
  refine ⟨fun h => ?_, ?_, hz⟩
  · rw [e1, e2]
    exact (fr_dec ⟨s, by omega⟩ ⟨m, by omega⟩ (hpos h)).1
  · unfold frV
    split
    · rename_i h
      rw [e1, e2]
      exact (fr_dec ⟨s, by omega⟩ ⟨m, by omega⟩ (hpos h)).2
    · exact fr_zero
/-! bestWant, ifDays -/
noncomputable def bwS (V : Row) (t k : Nat) (s : Int32 × Int32) : Int32 × Int32 :=
  if V (23 + 5 * t) >>> (nI k &&& 31) &&& 1 = 0 then
    (if s.2 < mstV (upd V (23 + 5 * t) (V (23 + 5 * t) ||| 1 <<< (nI k &&& 31))) (cirN V) then (nI k, mstV (upd V (23 + 5 * t) (V (23 + 5 * t) ||| 1 <<< (nI k &&& 31))) (cirN V)) else s)
  else s
noncomputable def bwF (V : Row) (t : Nat) : Nat → Int32 × Int32
  | 0 => (-4, -1)
  | k + 1 => bwS V t k (bwF V t k)
noncomputable def itD (V : Row) : Nat → Row
  | 0 => V
  | k + 1 => passV (callW (itD V k))
theorem Good_itD {V : Row} (h : Good V) : ∀ k, Good (itD V k)
  | 0 => h
  | k + 1 => Good_pass (Good_callW (Good_itD h k))
theorem WF_itD {V : Row} (h : Good V) (k : Nat) : WF (itD V k) := (Good_itD h k).1
theorem upd2 {V : Row} {i : Nat} {x y : Int32} : upd (upd V i x) i y = upd V i y := by
  funext j
  by_cases h : j = i
  · subst h; rw [pk_us, pk_us]
  · rw [pk_un h, pk_un h, pk_un h]
theorem upd_id {V : Row} {i : Nat} : upd V i (V i) = V := by
  funext j
  by_cases h : j = i
  · subst h; rw [pk_us]
  · rw [pk_un h]
theorem or_in {x : Int32} {k : Nat} (h : vp_in x 64) (hk : k < 6) : vp_in (x ||| 1 <<< (nI k &&& 31)) 64 := by
  obtain ⟨a, ha, rfl⟩ := vp_in_of h (by decide)
  rw [sb_nI (by omega)]
  exact vp_in_nI (sb_lt (n := 6) ha hk) (by decide)
theorem lt6 {i : Nat} (h1 : i ≤ 6) (c : ¬ (6 : Int32) ≤ nI i) : i < 6 := by
  rcases Nat.lt_or_ge i 6 with q | q
  · exact q
  · exact absurd (nI_le (a := 6) (b := i) q (by omega)) c
theorem eq6 {i : Nat} (h1 : i ≤ 6) (c : (6 : Int32) ≤ nI i) : i = 6 := by
  have := (nI_leI (a := 6) (b := i) (by decide) (by omega)).mp c
  omega
theorem FC_11 {M M' : Mem} (h : ∀ c, c < 11 ∨ (20 < c ∧ c < 75) ∨ 83 < c → M' c = M c) : FC M M' := fun c hc => h c (by omega)
