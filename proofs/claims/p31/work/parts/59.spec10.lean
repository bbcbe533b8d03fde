def adM (M : Mem) (o n : Nat) (mk w : Int32) : Mem := inc (mwM (updM (updM (updM M (o + 1) n mk) (o + 2) n w) (o + 5) n 0) o n) o 7
theorem nT_come {V : Row} (hV : WF V) (h6 : nT V < 7) {mk w : Int32} : nT (comeV V mk w) = nT V + 1 ∧ comeV V mk w 1 = nI (nT V + 1) := by
  have h1 : comeV V mk w 1 = V 1 + 1 := by
    simp only [comeV, come2, come1, upd]
    grind
  have h2 : comeV V mk w 1 = nI (nT V + 1) := by rw [h1, (WF_n hV).2, nI_1]
  refine ⟨?_, h2⟩
  unfold nT at *
  rw [h2, nI_clamp (by omega)]
theorem come_lo {V : Row} {mk w : Int32} {i : Nat} (hi : i < 22) : comeV V mk w i = if i = 1 ∨ i = 4 then V i + 1 else V i := by
  simp only [comeV, come2, come1, upd]
  rw [if_neg (show ¬ 4 = 26 + 5 * nT V by omega), if_neg (show ¬ 4 = 25 + 5 * nT V by omega), if_neg (show ¬ 4 = 24 + 5 * nT V by omega), if_neg (show ¬ 4 = 23 + 5 * nT V by omega), if_neg (show ¬ 4 = 22 + 5 * nT V by omega), if_neg (show ¬ i = 26 + 5 * nT V by omega), if_neg (show ¬ i = 25 + 5 * nT V by omega), if_neg (show ¬ i = 24 + 5 * nT V by omega), if_neg (show ¬ i = 23 + 5 * nT V by omega), if_neg (show ¬ i = 22 + 5 * nT V by omega)]
  by_cases h1 : i = 1
  · subst h1; simp
  · by_cases h4 : i = 4
    · subst h4; simp
    · simp [h1, h4]
theorem come_hi {V : Row} {mk w : Int32} {j : Nat} : comeV V mk w (22 + 5 * j) = (if j = nT V then mk else V (22 + 5 * j)) ∧ comeV V mk w (23 + 5 * j) = (if j = nT V then w else V (23 + 5 * j)) ∧ comeV V mk w (24 + 5 * j) = (if j = nT V then mk else V (24 + 5 * j)) ∧ comeV V mk w (25 + 5 * j) = (if j = nT V then 0 else V (25 + 5 * j)) ∧ comeV V mk w (26 + 5 * j) = (if j = nT V then 0 else V (26 + 5 * j)) := by
  simp only [comeV, come2, come1, upd]
  refine ⟨?_, ?_, ?_, ?_, ?_⟩ <;> grind (splits := 20)
theorem come_sum {V : Row} {mk w : Int32} : mSum (comeV V mk w) = mSum V := by
  simp only [mSum]
  rw [come_lo (i := 11) (by omega), come_lo (i := 13) (by omega), come_lo (i := 15) (by omega), come_lo (i := 17) (by omega), come_lo (i := 19) (by omega), come_lo (i := 21) (by omega)]
  simp
theorem RM_come {M : Mem} {o : Nat} {V : Row} (hR : RM M o V) (hV : WF V) (h6 : nT V < 7) {mk w : Int32} : RM (adM M o (nT V) mk w) o (comeV V mk w) := by
  obtain ⟨⟨r7, r8, r9, r10, r11, r12, r13, r14, r15, r2⟩, rk, rt⟩ := hR
  obtain ⟨hn, hn1⟩ := nT_come hV h6 (mk := mk) (w := w)
  have r11' : (M o 11 = -1 ∧ V 9 = -4) ∨ (M o 11 = V 9 ∧ vp_in (V 9) (nT V + 1)) := r11.imp id (fun q => ⟨q.1, vpin_le q.2 (by omega)⟩)
  refine ⟨?_, fun i hi => ?_, fun j hj => ?_⟩
  · rw [hn, come_sum, come_lo (i := 1) (by omega), come_lo (i := 7) (by omega), come_lo (i := 0) (by omega), come_lo (i := 8) (by omega), come_lo (i := 9) (by omega), come_lo (i := 3) (by omega), come_lo (i := 4) (by omega), come_lo (i := 5) (by omega), come_lo (i := 6) (by omega), come_lo (i := 2) (by omega)]
    simp only [adM, mwM, inc, updM]
    simp
    grind
  · have := rk i hi
    rw [come_lo (by omega), come_lo (by omega), if_neg (by omega), if_neg (by omega)]
    simp only [adM, mwM, inc, updM]
    grind (splits := 20)
  · rw [hn] at hj
    obtain ⟨c1, c2, c3, c4, c5⟩ := come_hi (V := V) (mk := mk) (w := w) (j := j)
    rw [c1, c2, c3, c4, c5]
    by_cases hjn : j = nT V
    · subst hjn
      simp only [adM, mwM, inc, updM]
      refine ⟨?_, ?_, ?_, ?_, ?_⟩ <;> grind (splits := 20)
    · have := rt j (by omega)
      simp only [adM, mwM, inc, updM]
      refine ⟨?_, ?_, ?_, ?_, ?_⟩ <;> grind (splits := 20)
theorem WF_come {V : Row} (hV : WF V) (h6 : nT V < 7) {mk w : Int32} (hm : vp_in mk 6) (hw : vp_in w 64) : WF (comeV V mk w) := by
  obtain ⟨hn, hn1⟩ := nT_come hV h6 (mk := mk) (w := w)
  obtain ⟨w1, w2, w3, w4, w5, w6⟩ := hV
  refine ⟨by rw [hn1]; exact vp_in_nI (by omega) (by decide), fun j hj => ?_, fun k hk => ?_, ?_, ?_, ?_⟩
  · rw [hn] at hj
    obtain ⟨c1, c2, c3, c4, c5⟩ := come_hi (V := V) (mk := mk) (w := w) (j := j)
    unfold WFt
    rw [c1, c2, c3, c4]
    by_cases hjn : j = nT V
    · simp only [if_pos hjn]
      exact ⟨hm, hw, hm, vp_in_nI (n := 0) (by omega) (by omega)⟩
    · simp only [if_neg hjn]
      exact w2 j (by omega)
  · rw [come_lo (by omega), if_neg (by omega)]; exact w3 k hk
  · rw [come_lo (by omega), if_neg (by omega)]; exact w4
  · rw [come_lo (by omega), if_neg (by omega)]; exact w5
  · rw [hn, come_lo (by omega), if_neg (by omega)]; exact w6.imp id (fun q => vpin_le q (by omega))
/-- a trader goes -/
def go1 (V : Row) (t i : Nat) : Row := fun k => if 22 + 5 * t ≤ k ∧ k < 22 + 5 * t + i then V (k + 5) else V k
def go2 (V : Row) (n i : Nat) : Row := fun k => if 22 + 5 * n ≤ k ∧ k < 22 + 5 * n + i then 0 else V k
def goS (V : Row) (t : Nat) : Int32 := if V 9 = nI t then -4 else if nI t < V 9 then V 9 - 1 else V 9
def goV (V : Row) (t : Nat) : Row := upd (go2 (go1 (upd V 1 (V 1 - 1)) t (5 * (nT V - 1 - t))) (nT V - 1) 5) 9 (goS V t)
theorem go1_s {V : Row} {t i : Nat} : upd (go1 V t i) (22 + 5 * t + i) (go1 V t i (22 + 5 * t + i + 5)) = go1 V t (i + 1) := by
  funext k
  simp only [go1, upd]
  grind
theorem go1_0 {V : Row} {t : Nat} : go1 V t 0 = V := by
  funext k
  simp only [go1]
  grind
theorem go2_s {V : Row} {n i : Nat} : upd (go2 V n i) (22 + 5 * n + i) 0 = go2 V n (i + 1) := by
  funext k
  simp only [go2, upd]
  grind
theorem go2_0 {V : Row} {n : Nat} : go2 V n 0 = V := by
  funext k
  simp only [go2]
  grind
theorem go_lo {V : Row} {t i : Nat} (hi : i < 22) : goV V t i = if i = 9 then goS V t else if i = 1 then V 1 - 1 else V i := by
  simp only [goV, go2, go1, upd]
  grind
theorem go_hi {V : Row} {t j w : Nat} (ht : t < nT V) (hj : j < nT V - 1) (hw : w < 5) : goV V t (22 + w + 5 * j) = V (22 + w + 5 * (if j < t then j else j + 1)) := by
  simp only [goV, go2, go1, upd]
  rw [if_neg (by omega), if_neg (by omega)]
  by_cases h : j < t
  · rw [if_neg (by omega), if_neg (by omega), if_pos h]
  · rw [if_pos (by omega), if_neg (by omega), if_neg h]
    congr 1
theorem nT_go {V : Row} (hV : WF V) {t : Nat} (ht : t < nT V) : nT (goV V t) = nT V - 1 ∧ goV V t 1 = nI (nT V - 1) := by
  have h2 : goV V t 1 = nI (nT V - 1) := by
    rw [go_lo (by omega), if_neg (by omega), if_pos rfl, (WF_n hV).2]
    obtain ⟨m, hm⟩ : ∃ m, nT V = m + 1 := ⟨nT V - 1, by omega⟩
    rw [hm, nI_pred]
    rfl
  refine ⟨?_, h2⟩
  have := (WF_n hV).1
  unfold nT at *
  rw [h2, nI_clamp (by omega)]
theorem goS_in {V : Row} (hV : WF V) {t : Nat} (ht : t < nT V) : (goS V t = -4) ∨ vp_in (goS V t) (nT V - 1) := by
  have h7 := (WF_n hV).1
  unfold goS
  rcases hV.2.2.2.2.2 with h | h
  · rw [h]
    left
    have h1 : ¬ (-4 : Int32) = nI t := fun q => m4_nI (by omega) q.symm
    have h2 : ¬ nI t < -4 := by
      intro q
      have h3 : (-4 : Int32) < nI t := Int32.lt_of_lt_of_le (by decide) (nI_pos' (by omega))
      exact absurd (Int32.lt_of_lt_of_le h3 (Int32.le_of_lt q)) (by decide)
    rw [if_neg h1, if_neg h2]
  · obtain ⟨s, hs, he⟩ := vp_in_of h (by omega)
    rw [he]
    by_cases c1 : s = t
    · left; rw [if_pos (by rw [c1])]
    · right
      rw [if_neg (fun q => c1 ((nI_eq (by omega) (by omega)).mp q))]
      by_cases c2 : t < s
      · rw [if_pos (nI_lt c2 (by omega))]
        obtain ⟨m, hm⟩ : ∃ m, s = m + 1 := ⟨s - 1, by omega⟩
        subst hm
        rw [nI_pred]
        exact vp_in_nI (by omega) (by omega)
      · rw [if_neg (nI_nlt (by omega) (by omega))]
        exact vp_in_nI (by omega) (by omega)
theorem WF_go {V : Row} (hV : WF V) {t : Nat} (ht : t < nT V) : WF (goV V t) := by
  obtain ⟨hn, hn1⟩ := nT_go hV ht
  have hgs := goS_in hV ht
  have h7 := (WF_n hV).1
  obtain ⟨w1, w2, w3, w4, w5, w6⟩ := hV
  refine ⟨by rw [hn1]; exact vp_in_nI (by omega) (by decide), fun j hj => ?_, fun k hk => ?_, ?_, ?_, ?_⟩
  · rw [hn] at hj
    have a0 := go_hi (w := 0) ht hj (by omega)
    have a1 := go_hi (w := 1) ht hj (by omega)
    have a2 := go_hi (w := 2) ht hj (by omega)
    have a3 := go_hi (w := 3) ht hj (by omega)
    have := w2 (if j < t then j else j + 1) (by split <;> omega)
    unfold WFt at *
    rw [show 22 + 5 * j = 22 + 0 + 5 * j from rfl, a0, show 23 + 5 * j = 22 + 1 + 5 * j by omega, a1, show 24 + 5 * j = 22 + 2 + 5 * j by omega, a2, show 25 + 5 * j = 22 + 3 + 5 * j by omega, a3]
    exact this
  · rw [go_lo (by omega), if_neg (by omega), if_neg (by omega)]; exact w3 k hk
  · rw [go_lo (by omega), if_neg (by omega), if_neg (by omega)]; exact w4
  · rw [go_lo (by omega), if_neg (by omega), if_neg (by omega)]; exact w5
  · rw [hn, go_lo (by omega), if_pos rfl]; exact hgs
def rmM (M : Mem) (o t i : Nat) : Mem := fun c k => if (o + 1 ≤ c ∧ c ≤ o + 5) ∧ t ≤ k ∧ k < i then M c (k + 1) else M c k
def rs1 (M : Mem) (a i : Nat) : Mem := updM M a i (M a (i + 1))
theorem rm_0 {M : Mem} {o t : Nat} : rmM M o t t = M := by
  funext c k
  simp only [rmM]
  rw [if_neg (by omega)]
theorem rm_s {M : Mem} {o t i : Nat} (hi : t ≤ i) : rs1 (rs1 (rs1 (rs1 (rs1 (rmM M o t i) (o + 1) i) (o + 2) i) (o + 3) i) (o + 4) i) (o + 5) i = rmM M o t (i + 1) := by
  funext c k
  by_cases hk : k = i
  · subst hk
    by_cases hc : o + 1 ≤ c ∧ c ≤ o + 5
    · rcases (show c = o + 1 ∨ c = o + 2 ∨ c = o + 3 ∨ c = o + 4 ∨ c = o + 5 by omega) with rfl | rfl | rfl | rfl | rfl <;> simp [rs1, updM, rmM, hi] <;> omega
    · simp only [rs1, updM, rmM]
      grind
  · simp only [rs1, updM, rmM]
    grind
theorem rm_o {M : Mem} {o t i : Nat} : rmM M o t i o = M o := by
  funext k
  simp only [rmM]
  rw [if_neg (by omega)]
theorem rm_ne {M : Mem} {o t i c : Nat} (h : c < o + 1 ∨ o + 5 < c) : rmM M o t i c = M c := by
  funext k
  simp only [rmM]
  rw [if_neg (by omega)]
theorem RM_goG {M M' : Mem} {o : Nat} {V : Row} (hR : RM M o V) (hV : WF V) {t : Nat} (ht : t < nT V) (h : ∀ k, k ≠ 7 → k ≠ 11 → M' o k = M o k) (h7 : M' o 7 = M o 7 - 1) (h11 : (M' o 11 = -1 ∧ goS V t = -4) ∨ (M' o 11 = goS V t ∧ vp_in (goS V t) (nT V - 1))) (h67 : M' (o + 6) = M (o + 6) ∧ M' (o + 7) = M (o + 7)) (hrow : ∀ c, 1 ≤ c → c ≤ 5 → ∀ j, j < nT V - 1 → M' (o + c) j = M (o + c) (if j < t then j else j + 1)) : RM M' o (goV V t) := by
  obtain ⟨⟨r7, r8, r9, r10, r11, r12, r13, r14, r15, r2⟩, rk, rt⟩ := hR
  obtain ⟨hn, hn1⟩ := nT_go hV ht
  have hs : mSum (goV V t) = mSum V := by
    simp only [mSum]
    rw [go_lo (i := 11) (by omega), go_lo (i := 13) (by omega), go_lo (i := 15) (by omega), go_lo (i := 17) (by omega), go_lo (i := 19) (by omega), go_lo (i := 21) (by omega)]
    simp
  refine ⟨?_, fun i hi => ?_, fun j hj => ?_⟩
  · rw [hn, hs, go_lo (i := 1) (by omega), go_lo (i := 7) (by omega), go_lo (i := 0) (by omega), go_lo (i := 8) (by omega), go_lo (i := 9) (by omega), go_lo (i := 3) (by omega), go_lo (i := 4) (by omega), go_lo (i := 5) (by omega), go_lo (i := 6) (by omega), go_lo (i := 2) (by omega)]
    rw [h 8 (by omega) (by omega), h 9 (by omega) (by omega), h 10 (by omega) (by omega), h 12 (by omega) (by omega), h 13 (by omega) (by omega), h 14 (by omega) (by omega), h 15 (by omega) (by omega), h7, r7]
    simp
    exact ⟨r8, r9, r10, h11, r12, r13, r14, r15, r2⟩
  · rw [h67.1, h67.2, go_lo (by omega), go_lo (by omega), if_neg (by omega), if_neg (by omega), if_neg (by omega), if_neg (by omega)]
    exact rk i hi
  · rw [hn] at hj
    rw [hrow 1 (by omega) (by omega) j hj, hrow 2 (by omega) (by omega) j hj, hrow 3 (by omega) (by omega) j hj, hrow 4 (by omega) (by omega) j hj, hrow 5 (by omega) (by omega) j hj]
    rw [show 22 + 5 * j = 22 + 0 + 5 * j from rfl, go_hi (w := 0) ht hj (by omega), show 23 + 5 * j = 22 + 1 + 5 * j by omega, go_hi (w := 1) ht hj (by omega), show 24 + 5 * j = 22 + 2 + 5 * j by omega, go_hi (w := 2) ht hj (by omega), show 25 + 5 * j = 22 + 3 + 5 * j by omega, go_hi (w := 3) ht hj (by omega), show 26 + 5 * j = 22 + 4 + 5 * j by omega, go_hi (w := 4) ht hj (by omega)]
    exact rt (if j < t then j else j + 1) (by split <;> omega)
theorem rs1_eq {M : Mem} {a i : Nat} : updM M a i (M a (i + 1)) = rs1 M a i := rfl
