theorem y_callMarket {o : Nat} (hk : IsMk o) {M : Mem} {V : Row} (hR : RM M o V) (hV : WF V) (ho : o + 9 < 75) : ∃ M' : Mem, Y 18 mX5_callMarket 0 (lent 3 [.ref 0, .ref o]) [] M (some (.int (mstV V (cirN V)))) M' ∧ RM M' o (callW V) ∧ ∀ c, (c < o ∨ o + 9 < c) → c ≠ 80 → c ≠ 81 → c ≠ 82 → c ≠ 83 → M' c = M c := by
  obtain ⟨M1, s1, p1, q1⟩ := y_findBest hk hR hV (by omega)
  have hR1 : RM M1 o V := RM_congr (fun c a b => q1 c (by omega) (by omega) (by omega) (by omega)) hR
  obtain ⟨M2, s2, r2, f2⟩ := y_doBarter hk hR1 hV (by omega) (g := cirG V) cirG_lt p1
  refine ⟨inc M2 o 14, ?_, RM_call r2, fun c h1 h2 h3 h4 h5 => ?_⟩
  rotate_left
  · have : inc M2 o 14 c = M2 c := updM_ne (by omega)
    rw [this, f2 c h1, q1 c h2 h3 h4 h5]
  skip
  refine x_aload_n dX5_callMarket_0 rfl ?_
  refine y_getR fkX5_46 dX5_callMarket_1 (by decide) rfl rfl ?_
  refine x_aload_n dX5_callMarket_4 rfl ?_
  refine y_callV (as := [_]) okX4_findBest lkX5_192 dX5_callMarket_5 rfl (by decide) rfl (s1) (by omega) rfl (by simp [Value.category]) (Nat.le_of_ble_eq_true rfl) rfl rfl (cat8 rfl) ?_
  refine x_istore_n dX5_callMarket_8 (by decide) rfl ?_
  refine x_aload_n dX5_callMarket_9 rfl ?_
  refine x_aload_n dX5_callMarket_10 rfl ?_
  refine y_getR fkX5_46 dX5_callMarket_11 (by decide) rfl rfl ?_
  refine y_getR fkX5_259 dX5_callMarket_14 (by decide) rfl rfl ?_
  refine y_callV (as := [_]) okX2_doBarter lkX5_262 dX5_callMarket_17 rfl (hk.1 0 (by decide)) (hk.2 0 (by decide)) ((s2.more (d' := 17) (by omega))) (by omega) rfl (by simp [Value.category]) (Nat.le_of_ble_eq_true rfl) rfl rfl (cat8 rfl) ?_
  refine x_aload_n dX5_callMarket_20 rfl ?_
  refine x_dup_r dX5_callMarket_21 ?_
  refine y_getI fkX5_228 dX5_callMarket_22 (hk.1 0 (by decide)) (hk.2 0 (by decide)) rfl ?_
  refine x_iconstv (v := 1) dX5_callMarket_25 (by decide) ?_
  refine x_iadd dX5_callMarket_26 ?_
  refine y_putI fkX5_228 dX5_callMarket_27 (hk.1 0 (by decide)) (hk.2 0 (by decide)) rfl rfl rfl rfl ?_
  refine x_iload_n dX5_callMarket_30 rfl ?_
  exact y_ret dX5_callMarket_31 rfl (rfl) (rfl) (rfl)
theorem y_bestGiver {M : Mem} {V : Row} (hR : RM M 1 V) (hV : WF V) {t : Nat} (ht : t < nT V) : ∃ M' : Mem, Y 18 mX5_bestGiver 0 (lent 3 [.ref 0, .int (nI t)]) [] M (some (.int (gI (-4) (cirG V t)))) M' ∧ ∀ c, c ≠ 80 → c ≠ 81 → c ≠ 82 → c ≠ 83 → M' c = M c := by
  obtain ⟨M1, s1, p1, q1⟩ := y_findBest mk1 hR hV (by decide)
  have h7 := b6 hV ht
  have h81 : M1 81 t = gI (-1) (cirG V t) := p1 t ht
  refine ⟨M1, ?_, q1⟩
  cases hg : cirG V t with
  | none =>
    rw [hg] at h81
    have h81 : M1 81 t = -1 := h81
    skip
    refine x_aload_n dX5_bestGiver_0 rfl ?_
    refine y_getR fkX5_46 dX5_bestGiver_1 (by decide) rfl rfl ?_
    refine x_aload_n dX5_bestGiver_4 rfl ?_
    refine y_getR fkX5_10 dX5_bestGiver_5 (by decide) rfl rfl ?_
    refine y_callV (as := [_]) okX4_findBest lkX5_192 dX5_bestGiver_8 rfl (by decide) rfl (s1) (by omega) rfl (by simp [Value.category]) (Nat.le_of_ble_eq_true rfl) rfl rfl (cat8 rfl) ?_
    refine x_pop_i dX5_bestGiver_11 ?_
    refine x_aload_n dX5_bestGiver_12 rfl ?_
    refine y_getR fkX5_46 dX5_bestGiver_13 (by decide) rfl rfl ?_
    refine y_getR fkX5_259 dX5_bestGiver_16 (by decide) rfl rfl ?_
    refine x_iload_n dX5_bestGiver_19 rfl ?_
    refine y_ialdn (j := t) dX5_bestGiver_20 (by decide) rfl (ixN (by omega)) (by omega) ?_
    rw [h81]
    refine x_istore_n dX5_bestGiver_21 (by decide) rfl ?_
    refine x_iload_n dX5_bestGiver_22 rfl ?_
    refine x_iconstv (v := -1) dX5_bestGiver_23 (by decide) ?_
    refine x_icmp_ne 32 dX5_bestGiver_24 (by decide) (fun c_24 => ?_) (fun c_24 => ?_)
    · exact absurd rfl c_24
    · refine x_bipushv (v := -4) dX5_bestGiver_27 (by decide) ?_
      refine x_goto 33 dX5_bestGiver_29 (by decide) ?_
      exact y_ret dX5_bestGiver_33 rfl (rfl) (rfl) (rfl)
  | some x =>
    rw [hg] at h81
    have hx := cirG_lt t x ht hg
    have h81 : M1 81 t = nI x := h81
    have hne : ¬ nI x = -1 := m1_nI (by have := b6 hV hx; omega)
    skip
    refine x_aload_n dX5_bestGiver_0 rfl ?_
    refine y_getR fkX5_46 dX5_bestGiver_1 (by decide) rfl rfl ?_
    refine x_aload_n dX5_bestGiver_4 rfl ?_
    refine y_getR fkX5_10 dX5_bestGiver_5 (by decide) rfl rfl ?_
    refine y_callV (as := [_]) okX4_findBest lkX5_192 dX5_bestGiver_8 rfl (by decide) rfl (s1) (by omega) rfl (by simp [Value.category]) (Nat.le_of_ble_eq_true rfl) rfl rfl (cat8 rfl) ?_
    refine x_pop_i dX5_bestGiver_11 ?_
    refine x_aload_n dX5_bestGiver_12 rfl ?_
    refine y_getR fkX5_46 dX5_bestGiver_13 (by decide) rfl rfl ?_
    refine y_getR fkX5_259 dX5_bestGiver_16 (by decide) rfl rfl ?_
    refine x_iload_n dX5_bestGiver_19 rfl ?_
    refine y_ialdn (j := t) dX5_bestGiver_20 (by decide) rfl (ixN (by omega)) (by omega) ?_
    rw [h81]
    refine x_istore_n dX5_bestGiver_21 (by decide) rfl ?_
    refine x_iload_n dX5_bestGiver_22 rfl ?_
    refine x_iconstv (v := -1) dX5_bestGiver_23 (by decide) ?_
    refine x_icmp_ne 32 dX5_bestGiver_24 (by decide) (fun c_24 => ?_) (fun c_24 => ?_)
    · refine x_iload_n dX5_bestGiver_32 rfl ?_
      exact y_ret dX5_bestGiver_33 rfl (rfl) (rfl) (rfl)
    · exact absurd c_24 hne
theorem r_calls_loop {M : Mem} {V : Row} (hV : WF V) {g : Nat → Option Nat} (hg : ∀ i q, i < nT V → g i = some q → q < nT V) (h85 : M 85 = V) (h90 : ∀ j, j < nT V → M 90 j = gI (-4) (g j)) : ∀ (k i : Nat), i + k = nT V → Y 6 mX6_calls 17 [some (.ref 84), some (.int (nI i))] [] (setR (lwM M 7) 85 (dbV V g i)) (some (.int (M 84 11))) (setR (lwM M 7) 85 (cllV V g)) := by
  obtain ⟨hn, hn2⟩ := WF_n hV
  have e90 : ∀ R : Row, setR (lwM M 7) 85 R 90 = M 90 := fun R => by rw [row_ne (by decide)]; unfold lwM; rw [row_ne (by decide), row_ne (by decide)]
  have e84 : ∀ R : Row, setR (lwM M 7) 85 R 84 = M 84 := fun R => by rw [row_ne (by decide)]; unfold lwM; rw [row_ne (by decide), row_ne (by decide)]
  have e85 : ∀ R : Row, setR (lwM M 7) 85 R 85 = R := fun R => row_at
  have e1 : ∀ i, i ≤ nT V → dbV V g i 1 = nI (nT V) := fun i hi => by
    have := (WF_n (WF_db hV hg i hi)).2
    rw [nT_db] at this
    exact this
  have e93 : ∀ (R : Row) (q : Nat), q < 7 → setR (lwM M 7) 85 R 93 q = V (24 + 5 * q) := fun R q hq => by rw [row_ne (by decide), lwM_93 hq, h85]
  have e94 : ∀ (R : Row) (q : Nat), q < 7 → setR (lwM M 7) 85 R 94 q = V (25 + 5 * q) := fun R q hq => by rw [row_ne (by decide), lwM_94 hq, h85]
  intro k
  induction k with
  | zero =>
    intro i hi
    have he : i = nT V := by omega
    subst he
    have e1' := e1 _ (Nat.le_refl _)
    have hu : updM (setR (lwM M 7) 85 (dbV V g (nT V))) 85 5 (dbV V g (nT V) 5 + 1) = setR (lwM M 7) 85 (cllV V g) := by rw [updM_row, row_row, row_at]; rfl
    skip
    refine x_iload_n dX6_calls_17 rfl ?_
    refine x_aload_n dX6_calls_18 rfl ?_
    refine y_getR fkX6_7 dX6_calls_19 (by decide) rfl rfl ?_
    refine x_iconstv (v := 1) dX6_calls_22 (by decide) ?_
    refine y_ialdn (j := 1) dX6_calls_23 (by decide) rfl (by decide) (by decide) ?_
    rw [e85, e1']
    refine x_icmp_ge 71 dX6_calls_24 (by decide) (fun c_24 => ?_) (fun c_24 => ?_)
    · refine x_aload_n dX6_calls_71 rfl ?_
      refine y_getR fkX6_7 dX6_calls_72 (by decide) rfl rfl ?_
      refine x_iconstv (v := 5) dX6_calls_75 (by decide) ?_
      refine x_dup2_ir dX6_calls_76 ?_
      refine y_ialdn (j := 5) dX6_calls_77 (by decide) rfl (by decide) (by decide) ?_
      rw [e85]
      refine x_iconstv (v := 1) dX6_calls_78 (by decide) ?_
      refine x_iadd dX6_calls_79 ?_
      refine y_iastn (j := 5) dX6_calls_80 (by decide) rfl (by decide) (by decide) ?_
      rw [hu]
      refine x_aload_n dX6_calls_81 rfl ?_
      refine y_getI fkX6_76 dX6_calls_82 (by decide) rfl rfl ?_
      rw [e84]
      exact y_ret dX6_calls_85 rfl (rfl) (rfl) (rfl)
    · exact absurd (Int32.le_refl _) c_24
  | succ k ih =>
    intro i hi
    have e1' := e1 i (by omega)
    have hnle : ¬ nI (nT V) ≤ nI i := nI_ge (by omega) (by omega)
    have hi2 := ih (i + 1) (by omega)
    have hb : setR (lwM M 7) 85 (dbV V g i) 90 i = gI (-4) (g i) := by rw [e90, h90 i (by omega)]
    rw [dbV] at hi2
    cases hgi : g i with
    | none =>
      rw [hgi] at hi2 hb
      have hb : setR (lwM M 7) 85 (dbV V g i) 90 i = -4 := hb
      skip
      refine x_iload_n dX6_calls_17 rfl ?_
      refine x_aload_n dX6_calls_18 rfl ?_
      refine y_getR fkX6_7 dX6_calls_19 (by decide) rfl rfl ?_
      refine x_iconstv (v := 1) dX6_calls_22 (by decide) ?_
      refine y_ialdn (j := 1) dX6_calls_23 (by decide) rfl (by decide) (by decide) ?_
      rw [e85, e1']
      refine x_icmp_ge 71 dX6_calls_24 (by decide) (fun c_24 => ?_) (fun c_24 => ?_)
      · exact absurd c_24 hnle
      · refine x_aload_n dX6_calls_27 rfl ?_
        refine y_getR fkX6_32 dX6_calls_28 (by decide) rfl rfl ?_
        refine x_iload_n dX6_calls_31 rfl ?_
        refine y_ialdn (j := i) dX6_calls_32 (by decide) rfl (ixN (by omega)) (by omega) ?_
        rw [hb]
        refine x_bipushv (v := -4) dX6_calls_33 (by decide) ?_
        refine x_icmp_eq 65 dX6_calls_35 (by decide) (fun c_35 => ?_) (fun c_35 => ?_)
        · refine x_iincv (v := 1) dX6_calls_65 rfl (by decide) rfl (by decide) ?_
          refine x_goto 17 dX6_calls_68 (by decide) ?_
          rw [nI_1]
          exact hi2
        · exact absurd rfl c_35
    | some q =>
      have hq := hg i q (by omega) hgi
      rw [hgi] at hi2 hb
      have hb : setR (lwM M 7) 85 (dbV V g i) 90 i = nI q := hb
      have hne : ¬ nI q = -4 := m4_nI (by omega)
      have hkd := vpin_nI (hV.2.1 q hq).2.2.1
      have hk6 := vpin_lt (hV.2.1 q hq).2.2.1
      have hgt := r_gets (M := setR (lwM M 7) 85 (dbV V g i)) (t := i) (k := kd V q) (a := V (25 + 5 * q)) (by omega) hk6
      rw [row_at, row_row, show nI (kd V q) = V (24 + 5 * q) from hkd.symm] at hgt
      skip
      refine x_iload_n dX6_calls_17 rfl ?_
      refine x_aload_n dX6_calls_18 rfl ?_
      refine y_getR fkX6_7 dX6_calls_19 (by decide) rfl rfl ?_
      refine x_iconstv (v := 1) dX6_calls_22 (by decide) ?_
      refine y_ialdn (j := 1) dX6_calls_23 (by decide) rfl (by decide) (by decide) ?_
      rw [e85, e1']
      refine x_icmp_ge 71 dX6_calls_24 (by decide) (fun c_24 => ?_) (fun c_24 => ?_)
      · exact absurd c_24 hnle
      · refine x_aload_n dX6_calls_27 rfl ?_
        refine y_getR fkX6_32 dX6_calls_28 (by decide) rfl rfl ?_
        refine x_iload_n dX6_calls_31 rfl ?_
        refine y_ialdn (j := i) dX6_calls_32 (by decide) rfl (ixN (by omega)) (by omega) ?_
        rw [hb]
        refine x_bipushv (v := -4) dX6_calls_33 (by decide) ?_
        refine x_icmp_eq 65 dX6_calls_35 (by decide) (fun c_35 => ?_) (fun c_35 => ?_)
        · exact absurd c_35 hne
        · refine x_aload_n dX6_calls_38 rfl ?_
          refine x_iload_n dX6_calls_39 rfl ?_
          refine x_aload_n dX6_calls_40 rfl ?_
          refine y_getR fkX6_41 dX6_calls_41 (by decide) rfl rfl ?_
          refine x_aload_n dX6_calls_44 rfl ?_
          refine y_getR fkX6_32 dX6_calls_45 (by decide) rfl rfl ?_
          refine x_iload_n dX6_calls_48 rfl ?_
          refine y_ialdn (j := i) dX6_calls_49 (by decide) rfl (ixN (by omega)) (by omega) ?_
          rw [hb]
          refine y_ialdn (j := q) dX6_calls_50 (by decide) rfl (ixN (by omega)) (by omega) ?_
          rw [e93 _ _ (by omega)]
          refine x_aload_n dX6_calls_51 rfl ?_
          refine y_getR fkX6_44 dX6_calls_52 (by decide) rfl rfl ?_
          refine x_aload_n dX6_calls_55 rfl ?_
          refine y_getR fkX6_32 dX6_calls_56 (by decide) rfl rfl ?_
          refine x_iload_n dX6_calls_59 rfl ?_
          refine y_ialdn (j := i) dX6_calls_60 (by decide) rfl (ixN (by omega)) (by omega) ?_
          rw [hb]
          refine y_ialdn (j := q) dX6_calls_61 (by decide) rfl (ixN (by omega)) (by omega) ?_
          rw [e94 _ _ (by omega)]
          refine y_callV (as := [_, _, _]) okX6_gets lkX6_98 dX6_calls_62 rfl (by decide) rfl ((hgt.more (d' := 5) (by omega))) (by omega) rfl (by simp [Value.category]) (Nat.le_of_ble_eq_true rfl) rfl rfl (cat8 rfl) ?_
          refine x_iincv (v := 1) dX6_calls_65 rfl (by decide) rfl (by decide) ?_
          refine x_goto 17 dX6_calls_68 (by decide) ?_
          rw [nI_1]
          exact hi2
theorem r_calls {M : Mem} (hV : WF (M 85)) : ∃ M' : Mem, Y 6 mX6_calls 0 (lent 2 [.ref 84]) [] M (some (.int (mstV (M 85) (cirN (M 85))))) M' ∧ M' 85 = callW (M 85) ∧ (∀ i, i ≠ 11 → M' 84 i = M 84 i) ∧ ∀ c, c ≠ 84 → c ≠ 85 → c ≠ 90 → c ≠ 91 → c ≠ 92 → c ≠ 93 → c ≠ 94 → M' c = M c := by
  obtain ⟨hc1, hc2, hc3⟩ := cir_ok hV
  obtain ⟨M1, s1, p1, p2, p3, p4⟩ := r_layBest hV (L := cirN (M 85)) ⟨by omega, hc3⟩
  have h85 : M1 85 = M 85 := p3 85 (by decide) (by decide) (by decide) (by decide)
  have hlt : ∀ i q, i < nT (M 85) → (bsr (M 85) (cirN (M 85))).2 i = some q → q < nT (M 85) := fun i q hi h => bst_lt i q hi (by rw [bst_bsr.2 i hi]; exact h)
  have hl := r_calls_loop hV hlt h85 p2 (nT (M 85)) 0 (by omega)
  rw [callW_r (fun j _ => rfl), p1, ← bst_bsr.1] at hl
  have e0 : setR (lwM M1 7) 85 (dbV (M 85) (bsr (M 85) (cirN (M 85))).2 0) = lwM M1 7 := by
    rw [dbV]
    have : lwM M1 7 85 = M 85 := by rw [lwM_85]; exact h85
    rw [← this, row_self]
  rw [e0] at hl
  refine ⟨setR (lwM M1 7) 85 (callW (M 85)), ?_, row_at, fun i hi => ?_, fun c h1 h2 h3 h4 h5 h6 h7 => ?_⟩
  rotate_left
  · rw [row_ne (by decide)]
    unfold lwM
    rw [row_ne (by decide), row_ne (by decide)]
    exact p4 i hi
  · rw [row_ne h2]
    unfold lwM
    rw [row_ne h7, row_ne h6]
    exact p3 c h1 h3 h4 h5
  skip
  refine x_aload_n dX6_calls_0 rfl ?_
  refine x_aload_n dX6_calls_1 rfl ?_
  refine y_getR fkX6_7 dX6_calls_2 (by decide) rfl rfl ?_
  refine x_bipushv (v := 7) dX6_calls_5 (by decide) ?_
  refine y_ialdn (j := 7) dX6_calls_7 (by decide) rfl (by decide) (by decide) ?_
  rw [hc1]
  refine y_callV (as := [_]) okX6_layBest lkX6_92 dX6_calls_8 rfl (by decide) rfl (s1) (by omega) rfl (by simp [Value.category]) (Nat.le_of_ble_eq_true rfl) rfl rfl (cat8 rfl) ?_
  refine x_aload_n dX6_calls_11 rfl ?_
  refine y_callV0 okX6_looksAtWares lkX6_95 dX6_calls_12 (by decide) rfl ((r_looks.more (d' := 5) (by omega))) (by omega) (Nat.le_of_ble_eq_true rfl) rfl rfl (cat8 rfl) ?_
  refine x_iconstv (v := 0) dX6_calls_15 (by decide) ?_
  refine x_istore_n dX6_calls_16 (by decide) rfl ?_
  exact hl
