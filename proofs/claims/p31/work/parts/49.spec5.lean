/-- the class' market: copies, takes, makes -/
def cf7 (M : Mem) (o p : Nat) : Mem := cpyM (cpyM (cpyM (cpyM (cpyM (cpyM (cpyM M (p + 1) (o + 1) 7) (p + 2) (o + 2) 7) (p + 3) (o + 3) 7) (p + 4) (o + 4) 7) (p + 5) (o + 5) 7) (p + 6) (o + 6) 6) (p + 7) (o + 7) 6
def cf1 (M : Mem) (o p j : Nat) : Mem := updM M o j (M p j)
def cfM (M : Mem) (o p : Nat) : Mem := cf1 (cf1 (cf1 (cf1 (cf1 (cf1 (cf1 (cf1 (cf1 (cf7 M o p) o p 7) o p 8) o p 9) o p 10) o p 11) o p 12) o p 13) o p 14) o p 15
def kwM (M : Mem) (o : Nat) : Mem := cpyM (cpyM M (o + 3) (o + 8) 7) (o + 4) (o + 9) 7
def inc (M : Mem) (a j : Nat) : Mem := updM M a j (M a j + 1)
def mwM (M : Mem) (o j : Nat) : Mem := inc (updM (updM M (o + 3) j (M (o + 1) j)) (o + 4) j 0) o 13
def tw1 (M : Mem) (o t k : Nat) (a : Int32) : Mem := updM (updM M (o + 3) t (nI k)) (o + 4) t a
def tw2 (M : Mem) (o t k : Nat) : Mem := updM M (o + 2) t (M (o + 2) t &&& (1 <<< (nI k &&& 31) ^^^ -1))
def twM (M : Mem) (o t k : Nat) (a : Int32) : Mem := inc (inc (tw2 (tw1 M o t k a) o t k) (o + 5) t) (o + 7) k
theorem vpin_T {x : Int32} {n : Nat} (h : vp_in x n) (hn : n < 2 ^ 31) : ∃ j, j < n ∧ x = nI j := vp_in_of h hn
theorem want_msk {x : Int32} {k : Nat} (h : vp_in x 64) (hk : k < 6) : vp_in (x &&& (1 <<< (nI k &&& 31) ^^^ -1)) 64 := by
  obtain ⟨j, hj, rfl⟩ := vp_in_of h (by decide)
  have h1 : ∀ (j : Fin 64) (k : Fin 6), ¬ ((nI j.val &&& (1 <<< (nI k.val &&& 31) ^^^ -1)) < 0 ∨ 64 ≤ (nI j.val &&& (1 <<< (nI k.val &&& 31) ^^^ -1)).toNatClampNeg) := by decide +kernel
  exact h1 ⟨j, hj⟩ ⟨k, hk⟩
theorem nT_upd {V : Row} {i : Nat} {x : Int32} (h : i ≠ 1) : nT (upd V i x) = nT V := by
  unfold nT
  rw [pk_un (Ne.symm h)]
theorem nT_gets {V : Row} {t k : Nat} {a : Int32} : nT (getsV V t k a) = nT V := by
  simp only [getsV, gets5, gets4, gets3, gets2, gets1]
  rw [nT_upd (by omega), nT_upd (by omega), nT_upd (by omega), nT_upd (by omega), nT_upd (by omega), nT_upd (by omega)]
theorem gets_lo {V : Row} {t k i : Nat} {a : Int32} (h : i < 22) (hk : k < 6) : getsV V t k a i = if i = 2 then V 2 + 1 else if i = 11 + 2 * k then V i + 1 else V i := by
  simp only [getsV, gets5, gets4, gets3, gets2, gets1, upd]
  rw [if_neg (show ¬ i = 26 + 5 * t by omega), if_neg (show ¬ 2 = 11 + 2 * k by omega)]
  grind (splits := 20)
theorem gets_0 {V : Row} {t k j : Nat} {a : Int32} (hk : k < 6) : getsV V t k a (22 + 5 * j) = V (22 + 5 * j) := by
  simp only [getsV, gets5, gets4, gets3, gets2, gets1, upd]
  grind (splits := 20)
theorem gets_1 {V : Row} {t k j : Nat} {a : Int32} (hk : k < 6) : getsV V t k a (23 + 5 * j) = if j = t then V (23 + 5 * t) &&& (1 <<< (nI k &&& 31) ^^^ -1) else V (23 + 5 * j) := by
  simp only [getsV, gets5, gets4, gets3, gets2, gets1, upd]
  grind (splits := 20)
theorem gets_2 {V : Row} {t k j : Nat} {a : Int32} (hk : k < 6) : getsV V t k a (24 + 5 * j) = if j = t then nI k else V (24 + 5 * j) := by
  simp only [getsV, gets5, gets4, gets3, gets2, gets1, upd]
  grind (splits := 20)
theorem gets_3 {V : Row} {t k j : Nat} {a : Int32} (hk : k < 6) : getsV V t k a (25 + 5 * j) = if j = t then a else V (25 + 5 * j) := by
  simp only [getsV, gets5, gets4, gets3, gets2, gets1, upd]
  grind (splits := 20)
theorem gets_4 {V : Row} {t k j : Nat} {a : Int32} (hk : k < 6) : getsV V t k a (26 + 5 * j) = if j = t then V (26 + 5 * t) + 1 else V (26 + 5 * j) := by
  simp only [getsV, gets5, gets4, gets3, gets2, gets1, upd]
  grind (splits := 20)
theorem gets_sum {V : Row} {t k : Nat} {a : Int32} (hk : k < 6) : mSum (getsV V t k a) = mSum V + 1 := by
  simp only [mSum, gets_lo (show 11 < 22 by omega) hk, gets_lo (show 13 < 22 by omega) hk, gets_lo (show 15 < 22 by omega) hk, gets_lo (show 17 < 22 by omega) hk, gets_lo (show 19 < 22 by omega) hk, gets_lo (show 21 < 22 by omega) hk]
  rcases (show k = 0 ∨ k = 1 ∨ k = 2 ∨ k = 3 ∨ k = 4 ∨ k = 5 by omega) with rfl | rfl | rfl | rfl | rfl | rfl <;> simp <;> grind
theorem tw_ne {M : Mem} {o t k c : Nat} {a : Int32} (h : c ≠ o + 2 ∧ c ≠ o + 3 ∧ c ≠ o + 4 ∧ c ≠ o + 5 ∧ c ≠ o + 7) : twM M o t k a c = M c := by
  unfold twM inc tw2 tw1
  rw [updM_ne h.2.2.2.2, updM_ne h.2.2.2.1, updM_ne h.1, updM_ne h.2.2.1, updM_ne h.2.1]
theorem RM_tw {M : Mem} {o : Nat} {V : Row} (hR : RM M o V) (hV : WF V) {t k : Nat} {a : Int32} (ht : t < nT V) (hk : k < 6) : RM (twM M o t k a) o (getsV V t k a) := by
  obtain ⟨⟨r7, r8, r9, r10, r11, r12, r13, r14, r15, r2⟩, rk, rt⟩ := hR
  have hn := (WF_n hV).1
  refine ⟨?_, fun i hi => ?_, fun j hj => ?_⟩
  · rw [nT_gets, tw_ne (by omega), gets_sum hk]
    simp only [gets_lo (show 1 < 22 by omega) hk, gets_lo (show 7 < 22 by omega) hk, gets_lo (show 0 < 22 by omega) hk, gets_lo (show 8 < 22 by omega) hk, gets_lo (show 9 < 22 by omega) hk, gets_lo (show 3 < 22 by omega) hk, gets_lo (show 4 < 22 by omega) hk, gets_lo (show 5 < 22 by omega) hk, gets_lo (show 6 < 22 by omega) hk, gets_lo (show 2 < 22 by omega) hk]
    grind
  · obtain ⟨h1, h2⟩ := rk i hi
    rw [tw_ne (c := o + 6) (by omega), gets_lo (by omega) hk, gets_lo (by omega) hk]
    simp only [twM, inc, tw2, tw1, updM]
    refine ⟨?_, ?_⟩ <;> grind (splits := 20)
  · rw [nT_gets] at hj
    obtain ⟨h1, h2, h3, h4, h5⟩ := rt j hj
    rw [tw_ne (c := o + 1) (by omega), gets_0 hk, gets_1 hk, gets_2 hk, gets_3 hk, gets_4 hk]
    simp only [twM, inc, tw2, tw1, updM]
    refine ⟨h1, ?_, ?_, ?_, ?_⟩ <;> grind (splits := 20)
theorem WF_gets {V : Row} (hV : WF V) {t k : Nat} {a : Int32} (ht : t < nT V) (hk : k < 6) (ha : vp_in a 11) : WF (getsV V t k a) := by
  obtain ⟨w1, w2, w3, w4, w5, w6⟩ := hV
  refine ⟨?_, fun j hj => ?_, fun i hi => ?_, ?_, ?_, ?_⟩
  · rw [gets_lo (by omega) hk]; simpa [show ¬ 1 = 11 + 2 * k by omega] using w1
  · rw [nT_gets] at hj
    obtain ⟨a1, a2, a3, a4⟩ := w2 j hj
    refine ⟨by rw [gets_0 hk]; exact a1, ?_, ?_, ?_⟩
    · rw [gets_1 hk]
      split
      · rename_i h; subst h; exact want_msk a2 hk
      · exact a2
    · rw [gets_2 hk]
      split
      · exact vp_in_nI hk (by decide)
      · exact a3
    · rw [gets_3 hk]
      split
      · exact ha
      · exact a4
  · rw [gets_lo (by omega) hk, if_neg (by omega), if_neg (by omega)]; exact w3 i hi
  · rw [gets_lo (by omega) hk, if_neg (by omega), if_neg (by omega)]; exact w4
  · rw [gets_lo (by omega) hk, if_neg (by omega), if_neg (by omega)]; exact w5
  · rw [nT_gets, gets_lo (by omega) hk, if_neg (by omega), if_neg (by omega)]; exact w6
