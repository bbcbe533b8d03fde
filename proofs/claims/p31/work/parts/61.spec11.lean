theorem RM_rc {M : Mem} {o : Nat} {V W : Row} (hR : RM M o V) (h : ∀ j, j < 57 → W j = V j) (h7 : nT V ≤ 7) : RM M o W := by
  have hn : nT W = nT V := by unfold nT; rw [h 1 (by omega)]
  unfold RM at *
  rw [hn, h 1 (by omega), h 7 (by omega), h 0 (by omega), h 8 (by omega), h 9 (by omega), h 3 (by omega), h 4 (by omega), h 5 (by omega), h 6 (by omega), h 2 (by omega)]
  obtain ⟨a, b, c⟩ := hR
  refine ⟨?_, fun k hk => ?_, fun j hj => ?_⟩
  · simp only [mSum] at *
    rw [h 11 (by omega), h 13 (by omega), h 15 (by omega), h 17 (by omega), h 19 (by omega), h 21 (by omega)]
    exact a
  · rw [h _ (by omega), h _ (by omega)]; exact b k hk
  · rw [h _ (by omega), h _ (by omega), h _ (by omega), h _ (by omega), h _ (by omega)]; exact c j hj
theorem Good_rc {V W : Row} (hV : Good V) (h : ∀ j, j < 57 → W j = V j) : Good W := by
  obtain ⟨⟨w1, w2, w3, w4, w5, w6⟩, wa⟩ := hV
  have h7 := (WF_n ⟨w1, w2, w3, w4, w5, w6⟩).1
  have hn : nT W = nT V := by unfold nT; rw [h 1 (by omega)]
  refine ⟨⟨by rw [h 1 (by omega)]; exact w1, fun j hj => ?_, fun k hk => by rw [h _ (by omega)]; exact w3 k hk, by rw [h 7 (by omega)]; exact w4, by rw [h 8 (by omega)]; exact w5, by rw [hn, h 9 (by omega)]; exact w6⟩, fun j hj => ?_⟩
  · rw [hn] at hj
    have := w2 j hj
    unfold WFt at *
    rw [h _ (by omega), h _ (by omega), h _ (by omega), h _ (by omega)]
    exact this
  · rw [hn] at hj
    rw [h _ (by omega)]
    exact wa j hj
theorem cf_o {M : Mem} {o p : Nat} {j : Nat} (h : o + 10 ≤ p ∨ p + 10 ≤ o) : cfM M o p o j = if 7 ≤ j ∧ j ≤ 15 then M p j else M o j := by
  have e1 : ∀ (N : Mem) (i k : Nat), cf1 N o p i p k = N p k := fun N i k => by simp only [cf1, updM]; rw [if_neg (by omega)]
  have e2 : ∀ (N : Mem) (i k : Nat), cf1 N o p i o k = if k = i then N p i else N o k := fun N i k => by simp only [cf1, updM]; simp
  have e3 : ∀ k, cf7 M o p p k = M p k := fun k => by
    unfold cf7
    rw [cpyM_ne (by omega), cpyM_ne (by omega), cpyM_ne (by omega), cpyM_ne (by omega), cpyM_ne (by omega), cpyM_ne (by omega), cpyM_ne (by omega)]
  have e4 : ∀ k, cf7 M o p o k = M o k := fun k => by
    unfold cf7
    rw [cpyM_ne (by omega), cpyM_ne (by omega), cpyM_ne (by omega), cpyM_ne (by omega), cpyM_ne (by omega), cpyM_ne (by omega), cpyM_ne (by omega)]
  unfold cfM
  simp only [e2, e1, e3, e4]
  grind (splits := 20)
theorem cf_a {M : Mem} {o p i : Nat} (h : o + 10 ≤ p ∨ p + 10 ≤ o) (hi : 1 ≤ i ∧ i ≤ 7) {j : Nat} (hj : j < (if i ≤ 5 then 7 else 6)) : cfM M o p (o + i) j = M (p + i) j := by
  have e1 : ∀ (N : Mem) (i' : Nat), cf1 N o p i' (o + i) = N (o + i) := fun N i' => by unfold cf1; rw [updM_ne (by omega)]
  unfold cfM
  simp only [e1]
  unfold cf7
  rcases (show i = 1 ∨ i = 2 ∨ i = 3 ∨ i = 4 ∨ i = 5 ∨ i = 6 ∨ i = 7 by omega) with rfl | rfl | rfl | rfl | rfl | rfl | rfl
  · rw [cpyM_ne (by omega), cpyM_ne (by omega), cpyM_ne (by omega), cpyM_ne (by omega), cpyM_ne (by omega), cpyM_ne (by omega)]
    have hj2 : j < 7 := by simp at hj; omega
    simp only [cpyM]
    grind (splits := 20)
  · rw [cpyM_ne (by omega), cpyM_ne (by omega), cpyM_ne (by omega), cpyM_ne (by omega), cpyM_ne (by omega)]
    have hj2 : j < 7 := by simp at hj; omega
    simp only [cpyM]
    grind (splits := 20)
  · rw [cpyM_ne (by omega), cpyM_ne (by omega), cpyM_ne (by omega), cpyM_ne (by omega)]
    have hj2 : j < 7 := by simp at hj; omega
    simp only [cpyM]
    grind (splits := 20)
  · rw [cpyM_ne (by omega), cpyM_ne (by omega), cpyM_ne (by omega)]
    have hj2 : j < 7 := by simp at hj; omega
    simp only [cpyM]
    grind (splits := 20)
  · rw [cpyM_ne (by omega), cpyM_ne (by omega)]
    have hj2 : j < 7 := by simp at hj; omega
    simp only [cpyM]
    grind (splits := 20)
  · rw [cpyM_ne (by omega)]
    have hj2 : j < 6 := by simpa using hj
    simp only [cpyM]
    grind (splits := 20)
  · have hj2 : j < 6 := by simpa using hj
    simp only [cpyM]
    grind (splits := 20)
theorem cf_ne {M : Mem} {o p c : Nat} (h : c < o ∨ o + 7 < c) : cfM M o p c = M c := by
  have e1 : ∀ (N : Mem) (i' : Nat), cf1 N o p i' c = N c := fun N i' => by unfold cf1; rw [updM_ne (by omega)]
  unfold cfM
  simp only [e1]
  unfold cf7
  rw [cpyM_ne (by omega), cpyM_ne (by omega), cpyM_ne (by omega), cpyM_ne (by omega), cpyM_ne (by omega), cpyM_ne (by omega), cpyM_ne (by omega)]
theorem RM_cf {M : Mem} {o p : Nat} {V : Row} (hR : RM M p V) (h7 : nT V ≤ 7) (h : o + 10 ≤ p ∨ p + 10 ≤ o) : RM (cfM M o p) o V := by
  obtain ⟨⟨r7, r8, r9, r10, r11, r12, r13, r14, r15, r2⟩, rk, rt⟩ := hR
  refine ⟨?_, fun k hk => ?_, fun j hj => ?_⟩
  · rw [cf_o h, cf_o h, cf_o h, cf_o h, cf_o h, cf_o h, cf_o h, cf_o h, cf_o h]
    simp
    exact ⟨r7, r8, r9, r10, r11, r12, r13, r14, r15, r2⟩
  · rw [cf_a h (by omega) (by simpa using hk), cf_a h (by omega) (by simpa using hk)]
    exact rk k hk
  · rw [cf_a h (by omega) (by simp; omega), cf_a h (by omega) (by simp; omega), cf_a h (by omega) (by simp; omega), cf_a h (by omega) (by simp; omega), cf_a h (by omega) (by simp; omega)]
    exact rt j hj
theorem mk_h {w : Nat} (hw : w < 4) : IsMk (33 + 10 * w) := by
  rcases (show w = 0 ∨ w = 1 ∨ w = 2 ∨ w = 3 by omega) with rfl | rfl | rfl | rfl
  · exact mk33
  · exact mk43
  · exact mk53
  · exact mk63
