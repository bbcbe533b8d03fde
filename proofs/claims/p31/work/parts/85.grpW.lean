theorem y_callMarket {o : Nat} (hk : IsMk o) {M : Mem} {V : Row} (hR : RM M o V) (hV : WF V) (ho : o + 9 < 75) : ∃ M' : Mem, Y 18 mX5_callMarket 0 (lent 3 [.ref 0, .ref o]) [] M (some (.int (mstV V (cirN V)))) M' ∧ RM M' o (callW V) ∧ ∀ c, (c < o ∨ o + 9 < c) → c ≠ 80 → c ≠ 81 → c ≠ 82 → c ≠ 83 → M' c = M c := by
  obtain ⟨M1, s1, p1, q1⟩ := y_findBest hk hR hV (by omega)
  have hR1 : RM M1 o V := RM_congr (fun c a b => q1 c (by omega) (by omega) (by omega) (by omega)) hR
  obtain ⟨M2, s2, r2, f2⟩ := y_doBarter hk hR1 hV (by omega) (g := cirG V) cirG_lt p1
  refine ⟨inc M2 o 14, ?_, RM_call r2, fun c h1 h2 h3 h4 h5 => ?_⟩
  rotate_left
  · have : inc M2 o 14 c = M2 c := updM_ne (by omega)
    rw [this, f2 c h1, q1 c h2 h3 h4 h5]
  skip
  refine x_aload_n dX5_callMarket_0 rfl ?_
  refine y_getR fkX5_46 dX5_callMarket_1 (by decide) rfl rfl ?_
  refine x_aload_n dX5_callMarket_4 rfl ?_
  refine y_callV (as := [_]) okX4_findBest lkX5_192 dX5_callMarket_5 rfl (by decide) rfl (s1) (by omega) rfl (by simp [Value.category]) (Nat.le_of_ble_eq_true rfl) rfl rfl (cat8 rfl) ?_
  refine x_istore_n dX5_callMarket_8 (by decide) rfl ?_
  refine x_aload_n dX5_callMarket_9 rfl ?_
  refine x_aload_n dX5_callMarket_10 rfl ?_
  refine y_getR fkX5_46 dX5_callMarket_11 (by decide) rfl rfl ?_
  refine y_getR fkX5_259 dX5_callMarket_14 (by decide) rfl rfl ?_
  refine y_callV (as := [_]) okX2_doBarter lkX5_262 dX5_callMarket_17 rfl (hk.1 0 (by decide)) (hk.2 0 (by decide)) ((s2.more (d' := 17) (by omega))) (by omega) rfl (by simp [Value.category]) (Nat.le_of_ble_eq_true rfl) rfl rfl (cat8 rfl) ?_
  refine x_aload_n dX5_callMarket_20 rfl ?_
  refine x_dup_r dX5_callMarket_21 ?_
  refine y_getI fkX5_228 dX5_callMarket_22 (hk.1 0 (by decide)) (hk.2 0 (by decide)) rfl ?_
  refine x_iconstv (v := 1) dX5_callMarket_25 (by decide) ?_
  refine x_iadd dX5_callMarket_26 ?_
  refine y_putI fkX5_228 dX5_callMarket_27 (hk.1 0 (by decide)) (hk.2 0 (by decide)) rfl rfl rfl rfl ?_
  refine x_iload_n dX5_callMarket_30 rfl ?_
  exact y_ret dX5_callMarket_31 rfl (rfl) (rfl) (rfl)
theorem y_bestGiver {M : Mem} {V : Row} (hR : RM M 1 V) (hV : WF V) {t : Nat} (ht : t < nT V) : ∃ M' : Mem, Y 18 mX5_bestGiver 0 (lent 3 [.ref 0, .int (nI t)]) [] M (some (.int (gI (-4) (cirG V t)))) M' ∧ ∀ c, c ≠ 80 → c ≠ 81 → c ≠ 82 → c ≠ 83 → M' c = M c := by
  obtain ⟨M1, s1, p1, q1⟩ := y_findBest mk1 hR hV (by decide)
  have h7 := b6 hV ht
  have h81 : M1 81 t = gI (-1) (cirG V t) := p1 t ht
  refine ⟨M1, ?_, q1⟩
  cases hg : cirG V t with
  | none =>
    rw [hg] at h81
    have h81 : M1 81 t = -1 := h81
    skip
    refine x_aload_n dX5_bestGiver_0 rfl ?_
    refine y_getR fkX5_46 dX5_bestGiver_1 (by decide) rfl rfl ?_
    refine x_aload_n dX5_bestGiver_4 rfl ?_
    refine y_getR fkX5_10 dX5_bestGiver_5 (by decide) rfl rfl ?_
    refine y_callV (as := [_]) okX4_findBest lkX5_192 dX5_bestGiver_8 rfl (by decide) rfl (s1) (by omega) rfl (by simp [Value.category]) (Nat.le_of_ble_eq_true rfl) rfl rfl (cat8 rfl) ?_
    refine x_pop_i dX5_bestGiver_11 ?_
    refine x_aload_n dX5_bestGiver_12 rfl ?_
    refine y_getR fkX5_46 dX5_bestGiver_13 (by decide) rfl rfl ?_
    refine y_getR fkX5_259 dX5_bestGiver_16 (by decide) rfl rfl ?_
    refine x_iload_n dX5_bestGiver_19 rfl ?_
    refine y_ialdn (j := t) dX5_bestGiver_20 (by decide) rfl (ixN (by omega)) (by omega) ?_
    rw [h81]
    refine x_istore_n dX5_bestGiver_21 (by decide) rfl ?_
    refine x_iload_n dX5_bestGiver_22 rfl ?_
    refine x_iconstv (v := -1) dX5_bestGiver_23 (by decide) ?_
    refine x_icmp_ne 32 dX5_bestGiver_24 (by decide) (fun c_24 => ?_) (fun c_24 => ?_)
    · exact absurd rfl c_24
    · refine x_bipushv (v := -4) dX5_bestGiver_27 (by decide) ?_
      refine x_goto 33 dX5_bestGiver_29 (by decide) ?_
      exact y_ret dX5_bestGiver_33 rfl (rfl) (rfl) (rfl)
  | some x =>
    rw [hg] at h81
    have hx := cirG_lt t x ht hg
    have h81 : M1 81 t = nI x := h81
    have hne : ¬ nI x = -1 := m1_nI (by have := b6 hV hx; omega)
    skip
    refine x_aload_n dX5_bestGiver_0 rfl ?_
    refine y_getR fkX5_46 dX5_bestGiver_1 (by decide) rfl rfl ?_
    refine x_aload_n dX5_bestGiver_4 rfl ?_
    refine y_getR fkX5_10 dX5_bestGiver_5 (by decide) rfl rfl ?_
    refine y_callV (as := [_]) okX4_findBest lkX5_192 dX5_bestGiver_8 rfl (by decide) rfl (s1) (by omega) rfl (by simp [Value.category]) (Nat.le_of_ble_eq_true rfl) rfl rfl (cat8 rfl) ?_
    refine x_pop_i dX5_bestGiver_11 ?_
    refine x_aload_n dX5_bestGiver_12 rfl ?_
    refine y_getR fkX5_46 dX5_bestGiver_13 (by decide) rfl rfl ?_
    refine y_getR fkX5_259 dX5_bestGiver_16 (by decide) rfl rfl ?_
    refine x_iload_n dX5_bestGiver_19 rfl ?_
    refine y_ialdn (j := t) dX5_bestGiver_20 (by decide) rfl (ixN (by omega)) (by omega) ?_
    rw [h81]
    refine x_istore_n dX5_bestGiver_21 (by decide) rfl ?_
    refine x_iload_n dX5_bestGiver_22 rfl ?_
    refine x_iconstv (v := -1) dX5_bestGiver_23 (by decide) ?_
    refine x_icmp_ne 32 dX5_bestGiver_24 (by decide) (fun c_24 => ?_) (fun c_24 => ?_)
    · refine x_iload_n dX5_bestGiver_32 rfl ?_
      exact y_ret dX5_bestGiver_33 rfl (rfl) (rfl) (rfl)
    · exact absurd c_24 hne
