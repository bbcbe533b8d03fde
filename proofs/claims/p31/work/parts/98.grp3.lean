theorem y_fresh {M : Mem} {V : Row} (hR : RM M 1 V) (hG : Good V) : Y 5 mX5_freshness 0 (lent 2 [.ref 0]) [] M (some (.double (frV V))) M := by
  have hV := hG.1
  obtain ⟨f1, -, -⟩ := fr_ok hG
  unfold frV
  skip
  refine x_aload_n dX5_freshness_0 rfl ?_
  refine y_getR fkX5_10 dX5_freshness_1 (by decide) rfl rfl ?_
  refine y_callV0 okX2_soundWares lkX5_216 dX5_freshness_4 (by decide) rfl (y_soundWares mk1 hR hV) (by omega) (Nat.le_of_ble_eq_true rfl) rfl rfl (cat8 rfl) ?_
  refine x_istore_n dX5_freshness_7 (by decide) rfl ?_
  refine x_iload_n dX5_freshness_8 rfl ?_
  refine x_if_le 26 dX5_freshness_9 (by decide) (fun c_9 => ?_) (fun c_9 => ?_)
  · refine x_dconst0 dX5_freshness_26 ?_
    first | (rw [if_pos (Int32.not_le.mp c_9)]; exact x_dreturn dX5_freshness_27 rfl) | (rw [if_neg (Int32.not_lt.mpr c_9)]; exact x_dreturn dX5_freshness_27 rfl)
  · refine x_aload_n dX5_freshness_12 rfl ?_
    refine y_getR fkX5_10 dX5_freshness_13 (by decide) rfl rfl ?_
    refine y_callV0 okX2_daysLeftOfAll lkX5_240 dX5_freshness_16 (by decide) rfl (((y_daysAll mk1 hR hV).more (d' := 4) (by omega))) (by omega) (Nat.le_of_ble_eq_true rfl) rfl rfl (cat8 rfl) ?_
    refine x_i2d dX5_freshness_19 ?_
    refine x_iload_n dX5_freshness_20 rfl ?_
    refine x_i2d dX5_freshness_21 ?_
    refine x_ddiv (f1 (Int32.not_le.mp c_9)) dX5_freshness_22 ?_
    refine x_goto 27 dX5_freshness_23 (by decide) ?_
    first | (rw [if_pos (Int32.not_le.mp c_9)]; exact x_dreturn dX5_freshness_27 rfl) | (rw [if_neg (Int32.not_lt.mpr c_9)]; exact x_dreturn dX5_freshness_27 rfl)
theorem y_bw_loop {V : Row} (hV : WF V) {t : Nat} (ht : t < nT V) : ∀ (k i : Nat) (M : Mem) (x : Int32) (l6 : Option Value), i + k = 6 → RM M 11 (upd V (23 + 5 * t) x) → ∃ M' : Mem, Y 9 mX5_bestWant 43 [some (.ref 0), some (.int (nI t)), some (.int (V (23 + 5 * t))), some (.int (bwF V t i).1), some (.int (bwF V t i).2), some (.int (nI i)), l6] [] M (some (.int (bwF V t 6).1)) M' ∧ (∀ c, c < 11 ∨ (20 < c ∧ c < 75) ∨ 83 < c → M' c = M c) := by
  have h7 := b6 hV ht
  obtain ⟨hn1, hn2⟩ := WF_n hV
  intro k
  induction k with
  | zero =>
    intro i M x l6 hi hR
    have hi6 : i = 6 := by omega
    subst hi6
    refine ⟨M, ?_, fun _ _ => rfl⟩
    skip
    refine x_iload dX5_bestWant_43 rfl ?_
    refine x_bipushv (v := 6) dX5_bestWant_45 (by decide) ?_
    refine x_icmp_ge 114 dX5_bestWant_47 (by decide) (fun c_47 => ?_) (fun c_47 => ?_)
    · refine x_iload_n dX5_bestWant_114 rfl ?_
      exact y_ret dX5_bestWant_115 rfl (rfl) (rfl) (rfl)
    · exact absurd (Int32.le_refl _) c_47
  | succ k ih =>
    intro i M x l6 hi hR
    have hi6 : i < 6 := by omega
    have hlt := nI_ge (a := i) (b := 6) hi6 (by decide)
    have hh := y_holds (M := M) (s := V (23 + 5 * t)) (k := nI i)
    have hw := y_with (M := M) (s := V (23 + 5 * t)) (k := nI i)
    by_cases hz : V (23 + 5 * t) >>> (nI i &&& 31) &&& 1 = 0
    · have hn : nT (upd V (23 + 5 * t) x) = nT V := nT_upd (by omega)
      have hR2 := RM_want hR (t := t) (by rw [hn]; exact ht) (by rw [hn]; exact hn1) (x := V (23 + 5 * t) ||| 1 <<< (nI i &&& 31))
      rw [upd2] at hR2
      have hWF := WF_want hV (t := t) (or_in (hV.2.1 t ht).2.1 hi6)
      obtain ⟨hc1, hc2, hc3⟩ := cir_ok hV
      obtain ⟨M2, s2, p2⟩ := y_mostTraders mk11 hR2 hWF (by decide) (L := cirN V) hc3
      have e8 : updM M (11 + 2) t (V (23 + 5 * t) ||| 1 <<< (nI i &&& 31)) 11 8 = nI (cirN V) := by
        rw [hR2.1.2.1, pk_un (by omega)]
        exact hc1
      have hR3 := RM_congr (fun c a b => p2 c (by omega) (by omega) (by omega) (by omega) (by omega)) hR2
      have hfr : ∀ c, c < 11 ∨ (20 < c ∧ c < 75) ∨ 83 < c → M2 c = M c := fun c hc => by
        rw [p2 c (by omega) (by omega) (by omega) (by omega) (by omega), updM_ne (by omega)]
      rw [show decide (V (23 + 5 * t) >>> (nI i &&& 31) &&& 1 ≠ 0) = false by simp [hz]] at hh
      have hs : bwF V t (i + 1) = if (bwF V t i).2 < mstV (upd V (23 + 5 * t) (V (23 + 5 * t) ||| 1 <<< (nI i &&& 31))) (cirN V) then (nI i, mstV (upd V (23 + 5 * t) (V (23 + 5 * t) ||| 1 <<< (nI i &&& 31))) (cirN V)) else bwF V t i := by
        rw [bwF, bwS, if_pos hz]
      by_cases hm : (bwF V t i).2 < mstV (upd V (23 + 5 * t) (V (23 + 5 * t) ||| 1 <<< (nI i &&& 31))) (cirN V)
      · rw [if_pos hm] at hs
        obtain ⟨M9, s9, f9⟩ := ih (i + 1) M2 _ (some (.int (mstV (upd V (23 + 5 * t) (V (23 + 5 * t) ||| 1 <<< (nI i &&& 31))) (cirN V)))) (by omega) hR3
        rw [hs] at s9
        refine ⟨M9, ?_, fun c hc => (f9 c hc).trans (hfr c hc)⟩
        skip
        refine x_iload dX5_bestWant_43 rfl ?_
        refine x_bipushv (v := 6) dX5_bestWant_45 (by decide) ?_
        refine x_icmp_ge 114 dX5_bestWant_47 (by decide) (fun c_47 => ?_) (fun c_47 => ?_)
        · exact absurd c_47 hlt
        · refine x_iload_n dX5_bestWant_50 rfl ?_
          refine x_iload dX5_bestWant_51 rfl ?_
          refine y_callS (as := [_, _]) okX5_holds lkX5_246 dX5_bestWant_53 rfl ((hh.more (d' := 8) (by omega))) (by omega) rfl (by simp [Value.category]) (Nat.le_of_ble_eq_true rfl) (cat8 rfl) ?_
          refine x_if_ne 108 dX5_bestWant_56 (by decide) (fun c_56 => ?_) (fun c_56 => ?_)
          · exact absurd rfl c_56
          · refine x_aload_n dX5_bestWant_59 rfl ?_
            refine y_getR fkX5_16 dX5_bestWant_60 (by decide) rfl rfl ?_
            refine y_getR fkX5_83 dX5_bestWant_63 (by decide) rfl rfl ?_
            refine x_iload_n dX5_bestWant_66 rfl ?_
            refine x_iload_n dX5_bestWant_67 rfl ?_
            refine x_iload dX5_bestWant_68 rfl ?_
            refine y_callS (as := [_, _]) okX5_with lkX5_249 dX5_bestWant_70 rfl ((hw.more (d' := 8) (by omega))) (by omega) rfl (by simp [Value.category]) (Nat.le_of_ble_eq_true rfl) (cat8 rfl) ?_
            refine y_iastn (j := t) dX5_bestWant_73 (by decide) rfl (ixN (by omega)) (by omega) ?_
            refine x_aload_n dX5_bestWant_74 rfl ?_
            refine y_getR fkX5_39 dX5_bestWant_75 (by decide) rfl rfl ?_
            refine x_aload_n dX5_bestWant_78 rfl ?_
            refine y_getR fkX5_16 dX5_bestWant_79 (by decide) rfl rfl ?_
            refine x_aload_n dX5_bestWant_82 rfl ?_
            refine y_getR fkX5_16 dX5_bestWant_83 (by decide) rfl rfl ?_
            refine y_getI fkX5_92 dX5_bestWant_86 (by decide) rfl rfl ?_
            rw [e8]
            refine y_callV (as := [_, _]) okX0_mostTraders lkX5_188 dX5_bestWant_89 rfl (by decide) rfl (s2) (by omega) rfl (by simp [Value.category]) (Nat.le_of_ble_eq_true rfl) rfl rfl (cat8 rfl) ?_
            refine x_istore dX5_bestWant_92 (by decide) rfl ?_
            refine x_iload dX5_bestWant_94 rfl ?_
            refine x_iload dX5_bestWant_96 rfl ?_
            refine x_icmp_le 108 dX5_bestWant_98 (by decide) (fun c_98 => ?_) (fun c_98 => ?_)
            · exact absurd hm (Int32.not_lt.mpr c_98)
            · refine x_iload dX5_bestWant_101 rfl ?_
              refine x_istore dX5_bestWant_103 (by decide) rfl ?_
              refine x_iload dX5_bestWant_105 rfl ?_
              refine x_istore_n dX5_bestWant_107 (by decide) rfl ?_
              refine x_iincv (v := 1) dX5_bestWant_108 rfl (by decide) rfl (by decide) ?_
              refine x_goto 43 dX5_bestWant_111 (by decide) ?_
              rw [nI_1]
              exact s9
      · rw [if_neg hm] at hs
        obtain ⟨M9, s9, f9⟩ := ih (i + 1) M2 _ (some (.int (mstV (upd V (23 + 5 * t) (V (23 + 5 * t) ||| 1 <<< (nI i &&& 31))) (cirN V)))) (by omega) hR3
        rw [hs] at s9
        refine ⟨M9, ?_, fun c hc => (f9 c hc).trans (hfr c hc)⟩
        skip
        refine x_iload dX5_bestWant_43 rfl ?_
        refine x_bipushv (v := 6) dX5_bestWant_45 (by decide) ?_
        refine x_icmp_ge 114 dX5_bestWant_47 (by decide) (fun c_47 => ?_) (fun c_47 => ?_)
        · exact absurd c_47 hlt
        · refine x_iload_n dX5_bestWant_50 rfl ?_
          refine x_iload dX5_bestWant_51 rfl ?_
          refine y_callS (as := [_, _]) okX5_holds lkX5_246 dX5_bestWant_53 rfl ((hh.more (d' := 8) (by omega))) (by omega) rfl (by simp [Value.category]) (Nat.le_of_ble_eq_true rfl) (cat8 rfl) ?_
          refine x_if_ne 108 dX5_bestWant_56 (by decide) (fun c_56 => ?_) (fun c_56 => ?_)
          · exact absurd rfl c_56
          · refine x_aload_n dX5_bestWant_59 rfl ?_
            refine y_getR fkX5_16 dX5_bestWant_60 (by decide) rfl rfl ?_
            refine y_getR fkX5_83 dX5_bestWant_63 (by decide) rfl rfl ?_
            refine x_iload_n dX5_bestWant_66 rfl ?_
            refine x_iload_n dX5_bestWant_67 rfl ?_
            refine x_iload dX5_bestWant_68 rfl ?_
            refine y_callS (as := [_, _]) okX5_with lkX5_249 dX5_bestWant_70 rfl ((hw.more (d' := 8) (by omega))) (by omega) rfl (by simp [Value.category]) (Nat.le_of_ble_eq_true rfl) (cat8 rfl) ?_
            refine y_iastn (j := t) dX5_bestWant_73 (by decide) rfl (ixN (by omega)) (by omega) ?_
            refine x_aload_n dX5_bestWant_74 rfl ?_
            refine y_getR fkX5_39 dX5_bestWant_75 (by decide) rfl rfl ?_
            refine x_aload_n dX5_bestWant_78 rfl ?_
            refine y_getR fkX5_16 dX5_bestWant_79 (by decide) rfl rfl ?_
            refine x_aload_n dX5_bestWant_82 rfl ?_
            refine y_getR fkX5_16 dX5_bestWant_83 (by decide) rfl rfl ?_
            refine y_getI fkX5_92 dX5_bestWant_86 (by decide) rfl rfl ?_
            rw [e8]
            refine y_callV (as := [_, _]) okX0_mostTraders lkX5_188 dX5_bestWant_89 rfl (by decide) rfl (s2) (by omega) rfl (by simp [Value.category]) (Nat.le_of_ble_eq_true rfl) rfl rfl (cat8 rfl) ?_
            refine x_istore dX5_bestWant_92 (by decide) rfl ?_
            refine x_iload dX5_bestWant_94 rfl ?_
            refine x_iload dX5_bestWant_96 rfl ?_
            refine x_icmp_le 108 dX5_bestWant_98 (by decide) (fun c_98 => ?_) (fun c_98 => ?_)
            · refine x_iincv (v := 1) dX5_bestWant_108 rfl (by decide) rfl (by decide) ?_
              refine x_goto 43 dX5_bestWant_111 (by decide) ?_
              rw [nI_1]
              exact s9
            · exact absurd (Int32.not_le.mp c_98) hm
    · have hs : bwF V t (i + 1) = bwF V t i := by rw [bwF, bwS, if_neg hz]
      rw [show decide (V (23 + 5 * t) >>> (nI i &&& 31) &&& 1 ≠ 0) = true by simp [hz]] at hh
      obtain ⟨M9, s9, f9⟩ := ih (i + 1) M x l6 (by omega) hR
      rw [hs] at s9
      refine ⟨M9, ?_, f9⟩
      skip
      refine x_iload dX5_bestWant_43 rfl ?_
      refine x_bipushv (v := 6) dX5_bestWant_45 (by decide) ?_
      refine x_icmp_ge 114 dX5_bestWant_47 (by decide) (fun c_47 => ?_) (fun c_47 => ?_)
      · exact absurd c_47 hlt
      · refine x_iload_n dX5_bestWant_50 rfl ?_
        refine x_iload dX5_bestWant_51 rfl ?_
        refine y_callS (as := [_, _]) okX5_holds lkX5_246 dX5_bestWant_53 rfl ((hh.more (d' := 8) (by omega))) (by omega) rfl (by simp [Value.category]) (Nat.le_of_ble_eq_true rfl) (cat8 rfl) ?_
        refine x_if_ne 108 dX5_bestWant_56 (by decide) (fun c_56 => ?_) (fun c_56 => ?_)
        · refine x_iincv (v := 1) dX5_bestWant_108 rfl (by decide) rfl (by decide) ?_
          refine x_goto 43 dX5_bestWant_111 (by decide) ?_
          rw [nI_1]
          exact s9
        · exact absurd c_56 (by decide)
theorem y_bestWant1 {M : Mem} {V : Row} (hR : RM M 1 V) (hV : WF V) {t : Nat} (ht : t < nT V) : ∃ M' : Mem, Y 9 mX5_bestWant 0 (lent 7 [.ref 0, .int (nI t)]) [] M (some (.int ((bwF V t 6).1))) M' ∧ (∀ c, c < 11 ∨ (20 < c ∧ c < 75) ∨ 83 < c → M' c = M c) := by
  have h7 := b6 hV ht
  have hh := y_hasT mk1 hR hV ht
  have hcp := y_copyFrom (M := M) mk11 mk1
  have hR2 := RM_cf (o := 11) hR (WF_n hV).1 (by omega)
  rw [← upd_id (V := V) (i := 23 + 5 * t)] at hR2
  obtain ⟨M9, s9, f9⟩ := y_bw_loop hV ht 6 0 (cfM M 11 1) _ none (by omega) hR2
  have e2 : cfM M 11 1 3 t = V (23 + 5 * t) := by
    rw [cf_ne (by omega)]
    exact (hR.2.2 t ht).2.1
  refine ⟨M9, ?_, fun c hc => by rw [f9 c hc, cf_ne (by omega)]⟩
  skip
  refine x_aload_n dX5_bestWant_0 rfl ?_
  refine y_getR fkX5_10 dX5_bestWant_1 (by decide) rfl rfl ?_
  refine x_iload_n dX5_bestWant_4 rfl ?_
  refine y_callV (as := [_]) okX2_has lkX5_72 dX5_bestWant_5 rfl (by decide) rfl ((hh.more (d' := 8) (by omega))) (by omega) rfl (by simp [Value.category]) (Nat.le_of_ble_eq_true rfl) rfl rfl (cat8 rfl) ?_
  refine x_if_ne 13 dX5_bestWant_8 (by decide) (fun c_8 => ?_) (fun c_8 => ?_)
  · refine x_aload_n dX5_bestWant_13 rfl ?_
    refine y_getR fkX5_16 dX5_bestWant_14 (by decide) rfl rfl ?_
    refine x_aload_n dX5_bestWant_17 rfl ?_
    refine y_getR fkX5_10 dX5_bestWant_18 (by decide) rfl rfl ?_
    refine y_callV (as := [_]) okX2_copyFrom lkX5_243 dX5_bestWant_21 rfl (by decide) rfl ((hcp.more (d' := 8) (by omega))) (by omega) rfl (by simp [Value.category]) (Nat.le_of_ble_eq_true rfl) rfl rfl (cat8 rfl) ?_
    refine x_aload_n dX5_bestWant_24 rfl ?_
    refine y_getR fkX5_10 dX5_bestWant_25 (by decide) rfl rfl ?_
    refine y_getR fkX5_83 dX5_bestWant_28 (by decide) rfl rfl ?_
    refine x_iload_n dX5_bestWant_31 rfl ?_
    refine y_ialdn (j := t) dX5_bestWant_32 (by decide) rfl (ixN (by omega)) (by omega) ?_
    rw [e2]
    refine x_istore_n dX5_bestWant_33 (by decide) rfl ?_
    refine x_bipushv (v := -4) dX5_bestWant_34 (by decide) ?_
    refine x_istore_n dX5_bestWant_36 (by decide) rfl ?_
    refine x_iconstv (v := -1) dX5_bestWant_37 (by decide) ?_
    refine x_istore dX5_bestWant_38 (by decide) rfl ?_
    refine x_iconstv (v := 0) dX5_bestWant_40 (by decide) ?_
    refine x_istore dX5_bestWant_41 (by decide) rfl ?_
    exact s9
  · exact absurd c_8 (by decide)
theorem y_bestWant0 {M : Mem} {V : Row} (hR : RM M 1 V) (hV : WF V) {t : Int32} (hx : hasB V t = false) : Y 9 mX5_bestWant 0 (lent 7 [.ref 0, .int t]) [] M (some (.int (-1))) M := by
  have hh := y_has mk1 hR hV (t := t)
  rw [hx] at hh
  skip
  refine x_aload_n dX5_bestWant_0 rfl ?_
  refine y_getR fkX5_10 dX5_bestWant_1 (by decide) rfl rfl ?_
  refine x_iload_n dX5_bestWant_4 rfl ?_
  refine y_callV (as := [_]) okX2_has lkX5_72 dX5_bestWant_5 rfl (by decide) rfl ((hh.more (d' := 8) (by omega))) (by omega) rfl (by simp [Value.category]) (Nat.le_of_ble_eq_true rfl) rfl rfl (cat8 rfl) ?_
  refine x_if_ne 13 dX5_bestWant_8 (by decide) (fun c_8 => ?_) (fun c_8 => ?_)
  · exact absurd c_8 (by decide)
  · refine x_iconstv (v := -1) dX5_bestWant_11 (by decide) ?_
    exact y_ret dX5_bestWant_12 rfl (rfl) (rfl) (rfl)
