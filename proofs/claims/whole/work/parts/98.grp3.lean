theorem y_fresh {M : Mem} {V : Row} (hR : RM M 1 V) (hG : Good V) : Y 5 mX5_freshness 0 (lent 2 [.ref 0]) [] M (some (.double (frV V))) M := by
  have hV := hG.1
  obtain ⟨f1, -, -⟩ := fr_ok hG
  unfold frV
  skip
  refine x_aload_n dX5_freshness_0 rfl ?_
  refine y_getR fkX5_10 dX5_freshness_1 (by decide) rfl rfl ?_
  refine y_callV0 okX2_soundWares lkX5_216 dX5_freshness_4 (by decide) rfl (y_soundWares mk1 hR hV) (by omega) (Nat.le_of_ble_eq_true rfl) rfl rfl (cat8 rfl) ?_
  refine x_istore_n dX5_freshness_7 (by decide) rfl ?_
  refine x_iload_n dX5_freshness_8 rfl ?_
  refine x_if_le 26 dX5_freshness_9 (by decide) (fun c_9 => ?_) (fun c_9 => ?_)
  · refine x_dconst0 dX5_freshness_26 ?_
    first | (rw [if_pos (Int32.not_le.mp c_9)]; exact x_dreturn dX5_freshness_27 rfl) | (rw [if_neg (Int32.not_lt.mpr c_9)]; exact x_dreturn dX5_freshness_27 rfl)
  · refine x_aload_n dX5_freshness_12 rfl ?_
    refine y_getR fkX5_10 dX5_freshness_13 (by decide) rfl rfl ?_
    refine y_callV0 okX2_daysLeftOfAll lkX5_240 dX5_freshness_16 (by decide) rfl (((y_daysAll mk1 hR hV).more (d' := 4) (by omega))) (by omega) (Nat.le_of_ble_eq_true rfl) rfl rfl (cat8 rfl) ?_
    refine x_i2d dX5_freshness_19 ?_
    refine x_iload_n dX5_freshness_20 rfl ?_
    refine x_i2d dX5_freshness_21 ?_
    refine x_ddiv (f1 (Int32.not_le.mp c_9)) dX5_freshness_22 ?_
    refine x_goto 27 dX5_freshness_23 (by decide) ?_
    first | (rw [if_pos (Int32.not_le.mp c_9)]; exact x_dreturn dX5_freshness_27 rfl) | (rw [if_neg (Int32.not_lt.mpr c_9)]; exact x_dreturn dX5_freshness_27 rfl)
theorem r_fresh_loop {M : Mem} (hV : WF (M 85)) {r : Option Value} (hk : Y 4 mX6_freshness 28 [some (.ref 84), some (.int (daysV (M 85))), some (.int (nI (nT (M 85))))] [] M r M) : ∀ (fu i : Nat) (acc x : Int32), i ≤ nT (M 85) → nT (M 85) - i < fu → x = nI i → acc = sumF (fun t => dl (M 85) t) i → Y 4 mX6_freshness 4 [some (.ref 84), some (.int acc), some (.int x)] [] M r M := by
  obtain ⟨hn1, hn2⟩ := WF_n hV
  intro fu
  induction fu with
  | zero => intro i acc x h1 h2; omega
  | succ fu ih =>
    intro i acc x h1 h2 hx ha9
    subst hx
    refine x_iload_n dX6_freshness_4 rfl ?_
    refine x_aload_n dX6_freshness_5 rfl ?_
    refine y_getR fkX6_7 dX6_freshness_6 (by decide) rfl rfl ?_
    refine x_iconstv (v := 1) dX6_freshness_9 (by decide) ?_
    refine y_ialdn (j := 1) dX6_freshness_10 (by decide) rfl (by decide) (by decide) ?_
    refine x_icmp_ge 28 dX6_freshness_11 (by decide) (fun c_11 => ?_) (fun c_11 => ?_)
    · have he := lp_eq hV rfl h1 c_11
      subst he
      subst ha9
      exact hk
    · have hlt := lp_lt hV rfl h1 c_11
      refine x_iload_n dX6_freshness_14 rfl ?_
      refine x_aload_n dX6_freshness_15 rfl ?_
      refine x_iload_n dX6_freshness_16 rfl ?_
      refine y_callV (as := [_]) okX6_daysLeft lkX6_68 dX6_freshness_17 rfl (by decide) rfl (((r_daysLeft hV hlt).more (d' := 3) (by omega))) (by omega) rfl (by simp [Value.category]) (Nat.le_of_ble_eq_true rfl) rfl rfl (cat8 rfl) ?_
      refine x_iadd dX6_freshness_20 ?_
      refine x_istore_n dX6_freshness_21 (by decide) rfl ?_
      refine x_iincv (v := 1) dX6_freshness_22 rfl (by decide) rfl (by decide) ?_
      refine x_goto 4 dX6_freshness_25 (by decide) ?_
      exact ih (i + 1) _ _ (by omega) (by omega) (by rw [nI_1]) (by rw [ha9]; rfl)
theorem r_fresh {M : Mem} (hG : Good (M 85)) : Y 4 mX6_freshness 0 (lent 3 [.ref 84]) [] M (some (.double (frV (M 85)))) M := by
  have hV := hG.1
  obtain ⟨f1, -, f3⟩ := fr_ok hG
  have hk : Y 4 mX6_freshness 28 [some (.ref 84), some (.int (daysV (M 85))), some (.int (nI (nT (M 85))))] [] M (some (.double (frV (M 85)))) M := by
    unfold frV
    skip
    refine x_aload_n dX6_freshness_28 rfl ?_
    refine y_getR fkX6_7 dX6_freshness_29 (by decide) rfl rfl ?_
    refine x_iconstv (v := 1) dX6_freshness_32 (by decide) ?_
    refine y_ialdn (j := 1) dX6_freshness_33 (by decide) rfl (by decide) (by decide) ?_
    refine x_aload_n dX6_freshness_34 rfl ?_
    refine y_callV0 okX6_spoilt lkX6_172 dX6_freshness_35 (by decide) rfl (r_spoilt hV) (by omega) (Nat.le_of_ble_eq_true rfl) rfl rfl (cat8 rfl) ?_
    refine x_isub dX6_freshness_38 ?_
    rw [← sound_eq hV]
    refine x_istore_n dX6_freshness_39 (by decide) rfl ?_
    refine x_iload_n dX6_freshness_40 rfl ?_
    refine x_if_ne 48 dX6_freshness_41 (by decide) (fun c_41 => ?_) (fun c_41 => ?_)
    · refine x_iload_n dX6_freshness_48 rfl ?_
      refine x_i2d dX6_freshness_49 ?_
      refine x_iload_n dX6_freshness_50 rfl ?_
      refine x_i2d dX6_freshness_51 ?_
      refine x_ddiv (f1 (Classical.not_not.mp (fun q => c_41 (f3.mpr q)))) dX6_freshness_52 ?_
      first | (rw [if_neg (f3.mp (by simpa using c_41))]; exact x_dreturn dX6_freshness_53 rfl) | (rw [if_pos (Classical.not_not.mp (fun q => c_41 (f3.mpr q)))]; exact x_dreturn dX6_freshness_53 rfl)
    · refine x_dconst0 dX6_freshness_44 ?_
      refine x_goto 53 dX6_freshness_45 (by decide) ?_
      first | (rw [if_neg (f3.mp (by simpa using c_41))]; exact x_dreturn dX6_freshness_53 rfl) | (rw [if_pos (Classical.not_not.mp (fun q => c_41 (f3.mpr q)))]; exact x_dreturn dX6_freshness_53 rfl)
  skip
  refine x_iconstv (v := 0) dX6_freshness_0 (by decide) ?_
  refine x_istore_n dX6_freshness_1 (by decide) rfl ?_
  refine x_iconstv (v := 0) dX6_freshness_2 (by decide) ?_
  refine x_istore_n dX6_freshness_3 (by decide) rfl ?_
  exact r_fresh_loop hV hk (nT (M 85) + 1) 0 0 0 (Nat.zero_le _) (by omega) rfl rfl
theorem y_bw_loop {V : Row} (hV : WF V) {t : Nat} (ht : t < nT V) : ∀ (k i : Nat) (M : Mem) (x : Int32) (l6 : Option Value), i + k = 6 → RM M 11 (upd V (23 + 5 * t) x) → ∃ M' : Mem, Y 9 mX5_bestWant 43 [some (.ref 0), some (.int (nI t)), some (.int (V (23 + 5 * t))), some (.int (bwF V t i).1), some (.int (bwF V t i).2), some (.int (nI i)), l6] [] M (some (.int (bwF V t 6).1)) M' ∧ (∀ c, c < 11 ∨ (20 < c ∧ c < 75) ∨ 83 < c → M' c = M c) := by
  have h7 := b6 hV ht
  obtain ⟨hn1, hn2⟩ := WF_n hV
  intro k
  induction k with
  | zero =>
    intro i M x l6 hi hR
    have hi6 : i = 6 := by omega
    subst hi6
    refine ⟨M, ?_, fun _ _ => rfl⟩
    skip
    refine x_iload dX5_bestWant_43 rfl ?_
    refine x_bipushv (v := 6) dX5_bestWant_45 (by decide) ?_
    refine x_icmp_ge 114 dX5_bestWant_47 (by decide) (fun c_47 => ?_) (fun c_47 => ?_)
    · refine x_iload_n dX5_bestWant_114 rfl ?_
      exact y_ret dX5_bestWant_115 rfl (rfl) (rfl) (rfl)
    · exact absurd (Int32.le_refl _) c_47
  | succ k ih =>
    intro i M x l6 hi hR
    have hi6 : i < 6 := by omega
    have hlt := nI_ge (a := i) (b := 6) hi6 (by decide)
    have hh := y_holds (M := M) (s := V (23 + 5 * t)) (k := nI i)
    have hw := y_with (M := M) (s := V (23 + 5 * t)) (k := nI i)
    by_cases hz : V (23 + 5 * t) >>> (nI i &&& 31) &&& 1 = 0
    · have hn : nT (upd V (23 + 5 * t) x) = nT V := nT_upd (by omega)
      have hR2 := RM_want hR (t := t) (by rw [hn]; exact ht) (by rw [hn]; exact hn1) (x := V (23 + 5 * t) ||| 1 <<< (nI i &&& 31))
      rw [upd2] at hR2
      have hWF := WF_want hV (t := t) (or_in (hV.2.1 t ht).2.1 hi6)
      obtain ⟨hc1, hc2, hc3⟩ := cir_ok hV
      obtain ⟨M2, s2, p2⟩ := y_mostTraders mk11 hR2 hWF (by decide) (L := cirN V) hc3
      have e8 : updM M (11 + 2) t (V (23 + 5 * t) ||| 1 <<< (nI i &&& 31)) 11 8 = nI (cirN V) := by
        rw [hR2.1.2.1, pk_un (by omega)]
        exact hc1
      have hR3 := RM_congr (fun c a b => p2 c (by omega) (by omega) (by omega) (by omega) (by omega)) hR2
      have hfr : ∀ c, c < 11 ∨ (20 < c ∧ c < 75) ∨ 83 < c → M2 c = M c := fun c hc => by
        rw [p2 c (by omega) (by omega) (by omega) (by omega) (by omega), updM_ne (by omega)]
      rw [show decide (V (23 + 5 * t) >>> (nI i &&& 31) &&& 1 ≠ 0) = false by simp [hz]] at hh
      have hs : bwF V t (i + 1) = if (bwF V t i).2 < mstV (upd V (23 + 5 * t) (V (23 + 5 * t) ||| 1 <<< (nI i &&& 31))) (cirN V) then (nI i, mstV (upd V (23 + 5 * t) (V (23 + 5 * t) ||| 1 <<< (nI i &&& 31))) (cirN V)) else bwF V t i := by
        rw [bwF, bwS, if_pos hz]
      by_cases hm : (bwF V t i).2 < mstV (upd V (23 + 5 * t) (V (23 + 5 * t) ||| 1 <<< (nI i &&& 31))) (cirN V)
      · rw [if_pos hm] at hs
        obtain ⟨M9, s9, f9⟩ := ih (i + 1) M2 _ (some (.int (mstV (upd V (23 + 5 * t) (V (23 + 5 * t) ||| 1 <<< (nI i &&& 31))) (cirN V)))) (by omega) hR3
        rw [hs] at s9
        refine ⟨M9, ?_, fun c hc => (f9 c hc).trans (hfr c hc)⟩
        skip
        refine x_iload dX5_bestWant_43 rfl ?_
        refine x_bipushv (v := 6) dX5_bestWant_45 (by decide) ?_
        refine x_icmp_ge 114 dX5_bestWant_47 (by decide) (fun c_47 => ?_) (fun c_47 => ?_)
        · exact absurd c_47 hlt
        · refine x_iload_n dX5_bestWant_50 rfl ?_
          refine x_iload dX5_bestWant_51 rfl ?_
          refine y_callS (as := [_, _]) okX5_holds lkX5_246 dX5_bestWant_53 rfl ((hh.more (d' := 8) (by omega))) (by omega) rfl (by simp [Value.category]) (Nat.le_of_ble_eq_true rfl) (cat8 rfl) ?_
          refine x_if_ne 108 dX5_bestWant_56 (by decide) (fun c_56 => ?_) (fun c_56 => ?_)
          · exact absurd rfl c_56
          · refine x_aload_n dX5_bestWant_59 rfl ?_
            refine y_getR fkX5_16 dX5_bestWant_60 (by decide) rfl rfl ?_
            refine y_getR fkX5_83 dX5_bestWant_63 (by decide) rfl rfl ?_
            refine x_iload_n dX5_bestWant_66 rfl ?_
            refine x_iload_n dX5_bestWant_67 rfl ?_
            refine x_iload dX5_bestWant_68 rfl ?_
            refine y_callS (as := [_, _]) okX5_with lkX5_249 dX5_bestWant_70 rfl ((hw.more (d' := 8) (by omega))) (by omega) rfl (by simp [Value.category]) (Nat.le_of_ble_eq_true rfl) (cat8 rfl) ?_
            refine y_iastn (j := t) dX5_bestWant_73 (by decide) rfl (ixN (by omega)) (by omega) ?_
            refine x_aload_n dX5_bestWant_74 rfl ?_
            refine y_getR fkX5_39 dX5_bestWant_75 (by decide) rfl rfl ?_
            refine x_aload_n dX5_bestWant_78 rfl ?_
            refine y_getR fkX5_16 dX5_bestWant_79 (by decide) rfl rfl ?_
            refine x_aload_n dX5_bestWant_82 rfl ?_
            refine y_getR fkX5_16 dX5_bestWant_83 (by decide) rfl rfl ?_
            refine y_getI fkX5_92 dX5_bestWant_86 (by decide) rfl rfl ?_
            rw [e8]
            refine y_callV (as := [_, _]) okX0_mostTraders lkX5_188 dX5_bestWant_89 rfl (by decide) rfl (s2) (by omega) rfl (by simp [Value.category]) (Nat.le_of_ble_eq_true rfl) rfl rfl (cat8 rfl) ?_
            refine x_istore dX5_bestWant_92 (by decide) rfl ?_
            refine x_iload dX5_bestWant_94 rfl ?_
            refine x_iload dX5_bestWant_96 rfl ?_
            refine x_icmp_le 108 dX5_bestWant_98 (by decide) (fun c_98 => ?_) (fun c_98 => ?_)
            · exact absurd hm (Int32.not_lt.mpr c_98)
            · refine x_iload dX5_bestWant_101 rfl ?_
              refine x_istore dX5_bestWant_103 (by decide) rfl ?_
              refine x_iload dX5_bestWant_105 rfl ?_
              refine x_istore_n dX5_bestWant_107 (by decide) rfl ?_
              refine x_iincv (v := 1) dX5_bestWant_108 rfl (by decide) rfl (by decide) ?_
              refine x_goto 43 dX5_bestWant_111 (by decide) ?_
              rw [nI_1]
              exact s9
      · rw [if_neg hm] at hs
        obtain ⟨M9, s9, f9⟩ := ih (i + 1) M2 _ (some (.int (mstV (upd V (23 + 5 * t) (V (23 + 5 * t) ||| 1 <<< (nI i &&& 31))) (cirN V)))) (by omega) hR3
        rw [hs] at s9
        refine ⟨M9, ?_, fun c hc => (f9 c hc).trans (hfr c hc)⟩
        skip
        refine x_iload dX5_bestWant_43 rfl ?_
        refine x_bipushv (v := 6) dX5_bestWant_45 (by decide) ?_
        refine x_icmp_ge 114 dX5_bestWant_47 (by decide) (fun c_47 => ?_) (fun c_47 => ?_)
        · exact absurd c_47 hlt
        · refine x_iload_n dX5_bestWant_50 rfl ?_
          refine x_iload dX5_bestWant_51 rfl ?_
          refine y_callS (as := [_, _]) okX5_holds lkX5_246 dX5_bestWant_53 rfl ((hh.more (d' := 8) (by omega))) (by omega) rfl (by simp [Value.category]) (Nat.le_of_ble_eq_true rfl) (cat8 rfl) ?_
          refine x_if_ne 108 dX5_bestWant_56 (by decide) (fun c_56 => ?_) (fun c_56 => ?_)
          · exact absurd rfl c_56
          · refine x_aload_n dX5_bestWant_59 rfl ?_
            refine y_getR fkX5_16 dX5_bestWant_60 (by decide) rfl rfl ?_
            refine y_getR fkX5_83 dX5_bestWant_63 (by decide) rfl rfl ?_
            refine x_iload_n dX5_bestWant_66 rfl ?_
            refine x_iload_n dX5_bestWant_67 rfl ?_
            refine x_iload dX5_bestWant_68 rfl ?_
            refine y_callS (as := [_, _]) okX5_with lkX5_249 dX5_bestWant_70 rfl ((hw.more (d' := 8) (by omega))) (by omega) rfl (by simp [Value.category]) (Nat.le_of_ble_eq_true rfl) (cat8 rfl) ?_
            refine y_iastn (j := t) dX5_bestWant_73 (by decide) rfl (ixN (by omega)) (by omega) ?_
            refine x_aload_n dX5_bestWant_74 rfl ?_
            refine y_getR fkX5_39 dX5_bestWant_75 (by decide) rfl rfl ?_
            refine x_aload_n dX5_bestWant_78 rfl ?_
            refine y_getR fkX5_16 dX5_bestWant_79 (by decide) rfl rfl ?_
            refine x_aload_n dX5_bestWant_82 rfl ?_
            refine y_getR fkX5_16 dX5_bestWant_83 (by decide) rfl rfl ?_
            refine y_getI fkX5_92 dX5_bestWant_86 (by decide) rfl rfl ?_
            rw [e8]
            refine y_callV (as := [_, _]) okX0_mostTraders lkX5_188 dX5_bestWant_89 rfl (by decide) rfl (s2) (by omega) rfl (by simp [Value.category]) (Nat.le_of_ble_eq_true rfl) rfl rfl (cat8 rfl) ?_
            refine x_istore dX5_bestWant_92 (by decide) rfl ?_
            refine x_iload dX5_bestWant_94 rfl ?_
            refine x_iload dX5_bestWant_96 rfl ?_
            refine x_icmp_le 108 dX5_bestWant_98 (by decide) (fun c_98 => ?_) (fun c_98 => ?_)
            · refine x_iincv (v := 1) dX5_bestWant_108 rfl (by decide) rfl (by decide) ?_
              refine x_goto 43 dX5_bestWant_111 (by decide) ?_
              rw [nI_1]
              exact s9
            · exact absurd (Int32.not_le.mp c_98) hm
    · have hs : bwF V t (i + 1) = bwF V t i := by rw [bwF, bwS, if_neg hz]
      rw [show decide (V (23 + 5 * t) >>> (nI i &&& 31) &&& 1 ≠ 0) = true by simp [hz]] at hh
      obtain ⟨M9, s9, f9⟩ := ih (i + 1) M x l6 (by omega) hR
      rw [hs] at s9
      refine ⟨M9, ?_, f9⟩
      skip
      refine x_iload dX5_bestWant_43 rfl ?_
      refine x_bipushv (v := 6) dX5_bestWant_45 (by decide) ?_
      refine x_icmp_ge 114 dX5_bestWant_47 (by decide) (fun c_47 => ?_) (fun c_47 => ?_)
      · exact absurd c_47 hlt
      · refine x_iload_n dX5_bestWant_50 rfl ?_
        refine x_iload dX5_bestWant_51 rfl ?_
        refine y_callS (as := [_, _]) okX5_holds lkX5_246 dX5_bestWant_53 rfl ((hh.more (d' := 8) (by omega))) (by omega) rfl (by simp [Value.category]) (Nat.le_of_ble_eq_true rfl) (cat8 rfl) ?_
        refine x_if_ne 108 dX5_bestWant_56 (by decide) (fun c_56 => ?_) (fun c_56 => ?_)
        · refine x_iincv (v := 1) dX5_bestWant_108 rfl (by decide) rfl (by decide) ?_
          refine x_goto 43 dX5_bestWant_111 (by decide) ?_
          rw [nI_1]
          exact s9
        · exact absurd c_56 (by decide)
theorem y_bestWant1 {M : Mem} {V : Row} (hR : RM M 1 V) (hV : WF V) {t : Nat} (ht : t < nT V) : ∃ M' : Mem, Y 9 mX5_bestWant 0 (lent 7 [.ref 0, .int (nI t)]) [] M (some (.int ((bwF V t 6).1))) M' ∧ (∀ c, c < 11 ∨ (20 < c ∧ c < 75) ∨ 83 < c → M' c = M c) := by
  have h7 := b6 hV ht
  have hh := y_hasT mk1 hR hV ht
  have hcp := y_copyFrom (M := M) mk11 mk1
  have hR2 := RM_cf (o := 11) hR (WF_n hV).1 (by omega)
  rw [← upd_id (V := V) (i := 23 + 5 * t)] at hR2
  obtain ⟨M9, s9, f9⟩ := y_bw_loop hV ht 6 0 (cfM M 11 1) _ none (by omega) hR2
  have e2 : cfM M 11 1 3 t = V (23 + 5 * t) := by
    rw [cf_ne (by omega)]
    exact (hR.2.2 t ht).2.1
  refine ⟨M9, ?_, fun c hc => by rw [f9 c hc, cf_ne (by omega)]⟩
  skip
  refine x_aload_n dX5_bestWant_0 rfl ?_
  refine y_getR fkX5_10 dX5_bestWant_1 (by decide) rfl rfl ?_
  refine x_iload_n dX5_bestWant_4 rfl ?_
  refine y_callV (as := [_]) okX2_has lkX5_72 dX5_bestWant_5 rfl (by decide) rfl ((hh.more (d' := 8) (by omega))) (by omega) rfl (by simp [Value.category]) (Nat.le_of_ble_eq_true rfl) rfl rfl (cat8 rfl) ?_
  refine x_if_ne 13 dX5_bestWant_8 (by decide) (fun c_8 => ?_) (fun c_8 => ?_)
  · refine x_aload_n dX5_bestWant_13 rfl ?_
    refine y_getR fkX5_16 dX5_bestWant_14 (by decide) rfl rfl ?_
    refine x_aload_n dX5_bestWant_17 rfl ?_
    refine y_getR fkX5_10 dX5_bestWant_18 (by decide) rfl rfl ?_
    refine y_callV (as := [_]) okX2_copyFrom lkX5_243 dX5_bestWant_21 rfl (by decide) rfl ((hcp.more (d' := 8) (by omega))) (by omega) rfl (by simp [Value.category]) (Nat.le_of_ble_eq_true rfl) rfl rfl (cat8 rfl) ?_
    refine x_aload_n dX5_bestWant_24 rfl ?_
    refine y_getR fkX5_10 dX5_bestWant_25 (by decide) rfl rfl ?_
    refine y_getR fkX5_83 dX5_bestWant_28 (by decide) rfl rfl ?_
    refine x_iload_n dX5_bestWant_31 rfl ?_
    refine y_ialdn (j := t) dX5_bestWant_32 (by decide) rfl (ixN (by omega)) (by omega) ?_
    rw [e2]
    refine x_istore_n dX5_bestWant_33 (by decide) rfl ?_
    refine x_bipushv (v := -4) dX5_bestWant_34 (by decide) ?_
    refine x_istore_n dX5_bestWant_36 (by decide) rfl ?_
    refine x_iconstv (v := -1) dX5_bestWant_37 (by decide) ?_
    refine x_istore dX5_bestWant_38 (by decide) rfl ?_
    refine x_iconstv (v := 0) dX5_bestWant_40 (by decide) ?_
    refine x_istore dX5_bestWant_41 (by decide) rfl ?_
    exact s9
  · exact absurd c_8 (by decide)
theorem y_bestWant0 {M : Mem} {V : Row} (hR : RM M 1 V) (hV : WF V) {t : Int32} (hx : hasB V t = false) : Y 9 mX5_bestWant 0 (lent 7 [.ref 0, .int t]) [] M (some (.int (-1))) M := by
  have hh := y_has mk1 hR hV (t := t)
  rw [hx] at hh
  skip
  refine x_aload_n dX5_bestWant_0 rfl ?_
  refine y_getR fkX5_10 dX5_bestWant_1 (by decide) rfl rfl ?_
  refine x_iload_n dX5_bestWant_4 rfl ?_
  refine y_callV (as := [_]) okX2_has lkX5_72 dX5_bestWant_5 rfl (by decide) rfl ((hh.more (d' := 8) (by omega))) (by omega) rfl (by simp [Value.category]) (Nat.le_of_ble_eq_true rfl) rfl rfl (cat8 rfl) ?_
  refine x_if_ne 13 dX5_bestWant_8 (by decide) (fun c_8 => ?_) (fun c_8 => ?_)
  · exact absurd c_8 (by decide)
  · refine x_iconstv (v := -1) dX5_bestWant_11 (by decide) ?_
    exact y_ret dX5_bestWant_12 rfl (rfl) (rfl) (rfl)
theorem r_mostW {M : Mem} (hV : WF (M 85)) {L : Nat} (hL : 1 ≤ L ∧ L ≤ 7) : ∃ M' : Mem, Y 6 mX6_mostWith 0 (lent 2 [.ref 84, .int (nI L)]) [] M (some (.int (mstV (M 85) L))) M' ∧ (∀ c, c ≠ 84 → c ≠ 90 → c ≠ 91 → c ≠ 92 → M' c = M c) ∧ ∀ i, i ≠ 11 → M' 84 i = M 84 i := by
  obtain ⟨M1, s1, p1, p2, p3, p4⟩ := r_layBest hV (L := L) hL
  have e9 : M1 84 11 = mstV (M 85) L := by
    rw [p1]
    unfold mstV
    rw [bst_bsr.1]
  refine ⟨M1, ?_, p3, p4⟩
  skip
  refine x_aload_n dX6_mostWith_0 rfl ?_
  refine x_iload_n dX6_mostWith_1 rfl ?_
  refine y_callV (as := [_]) okX6_layBest lkX6_92 dX6_mostWith_2 rfl (by decide) rfl (s1) (by omega) rfl (by simp [Value.category]) (Nat.le_of_ble_eq_true rfl) rfl rfl (cat8 rfl) ?_
  refine x_aload_n dX6_mostWith_5 rfl ?_
  refine y_getI fkX6_76 dX6_mostWith_6 (by decide) rfl rfl ?_
  exact y_ret dX6_mostWith_9 rfl (rfl) (e9) (rfl)
theorem r_bw_loop {V : Row} (hV : WF V) {t : Nat} (ht : t < nT V) : ∀ (k i : Nat) (M : Mem) (x : Int32) (l6 : Option Value), i + k = 6 → M 85 = upd V (23 + 5 * t) x → ∃ M' : Mem, Y 7 mX6_bestWant 26 [some (.ref 84), some (.int (nI t)), some (.int (V (23 + 5 * t))), some (.int (bwF V t i).1), some (.int (bwF V t i).2), some (.int (nI i)), l6] [] M (some (.int (bwF V t 6).1)) M' ∧ M' 85 = V ∧ (∀ c, c ≠ 84 → c ≠ 85 → c ≠ 90 → c ≠ 91 → c ≠ 92 → M' c = M c) ∧ ∀ i, i ≠ 11 → i ≠ 16 → M' 84 i = M 84 i := by
  have h7 := b6 hV ht
  obtain ⟨hn1, hn2⟩ := WF_n hV
  intro k
  induction k with
  | zero =>
    intro i M x l6 hi hR
    have hi6 : i = 6 := by omega
    subst hi6
    refine ⟨updM M 85 (23 + 5 * t) (V (23 + 5 * t)), ?_, by rw [updM_row, row_at, hR, upd2, upd_id], fun c _ h _ _ _ => updM_ne h, fun i _ _ => by rw [updM_ne (by decide)]⟩
    skip
    refine x_iload dX6_bestWant_26 rfl ?_
    refine x_bipushv (v := 6) dX6_bestWant_28 (by decide) ?_
    refine x_icmp_ge 107 dX6_bestWant_30 (by decide) (fun c_30 => ?_) (fun c_30 => ?_)
    · refine x_aload_n dX6_bestWant_107 rfl ?_
      refine y_getR fkX6_7 dX6_bestWant_108 (by decide) rfl rfl ?_
      refine x_iload_n dX6_bestWant_111 rfl ?_
      refine x_iconstv (v := 1) dX6_bestWant_112 (by decide) ?_
      refine y_callS (as := [_, _]) okX6_at lkX6_59 dX6_bestWant_113 rfl ((r_at1k.more (d' := 6) (by omega))) (by omega) rfl (by simp [Value.category]) (Nat.le_of_ble_eq_true rfl) (cat8 rfl) ?_
      refine x_iload_n dX6_bestWant_116 rfl ?_
      refine y_iastn (j := 23 + 5 * t) dX6_bestWant_117 (by decide) rfl (ixN (by omega)) (by omega) ?_
      refine x_iload_n dX6_bestWant_118 rfl ?_
      exact y_ret dX6_bestWant_119 rfl (rfl) (rfl) (rfl)
    · exact absurd (Int32.le_refl _) c_30
  | succ k ih =>
    intro i M x l6 hi hR
    have hi6 : i < 6 := by omega
    have hlt := nI_ge (a := i) (b := 6) hi6 (by decide)
    by_cases hz : V (23 + 5 * t) >>> (nI i &&& 31) &&& 1 = 0
    · have hWF := WF_want hV (t := t) (or_in (hV.2.1 t ht).2.1 hi6)
      obtain ⟨hc1, hc2, hc3⟩ := cir_ok hV
      have e85 : updM M 85 (23 + 5 * t) (V (23 + 5 * t) ||| 1 <<< (nI i &&& 31)) 85 = upd V (23 + 5 * t) (V (23 + 5 * t) ||| 1 <<< (nI i &&& 31)) := by rw [updM_row, row_at, hR, upd2]
      obtain ⟨M2, s2, p2, p3⟩ := r_mostW (M := updM M 85 (23 + 5 * t) (V (23 + 5 * t) ||| 1 <<< (nI i &&& 31))) (by rw [e85]; exact hWF) (L := cirN V) ⟨by omega, hc3⟩
      rw [e85] at s2
      have e8 : updM M 85 (23 + 5 * t) (V (23 + 5 * t) ||| 1 <<< (nI i &&& 31)) 85 7 = nI (cirN V) := by
        rw [e85, pk_un (by omega)]
        exact hc1
      have hR3 : M2 85 = upd V (23 + 5 * t) (V (23 + 5 * t) ||| 1 <<< (nI i &&& 31)) := (p2 85 (by decide) (by decide) (by decide) (by decide)).trans e85
      have hs : bwF V t (i + 1) = if (bwF V t i).2 < mstV (upd V (23 + 5 * t) (V (23 + 5 * t) ||| 1 <<< (nI i &&& 31))) (cirN V) then (nI i, mstV (upd V (23 + 5 * t) (V (23 + 5 * t) ||| 1 <<< (nI i &&& 31))) (cirN V)) else bwF V t i := by
        rw [bwF, bwS, if_pos hz]
      obtain ⟨M9, s9, f7, f8, f9⟩ := ih (i + 1) M2 _ (some (.int (mstV (upd V (23 + 5 * t) (V (23 + 5 * t) ||| 1 <<< (nI i &&& 31))) (cirN V)))) (by omega) hR3
      refine ⟨M9, ?_, f7, fun c a1 a2 a3 a4 a5 => by rw [f8 c a1 a2 a3 a4 a5, p2 c a1 a3 a4 a5, updM_ne a2], fun i a b => by rw [f9 i a b, p3 i a, updM_ne (by decide)]⟩
      by_cases hm : (bwF V t i).2 < mstV (upd V (23 + 5 * t) (V (23 + 5 * t) ||| 1 <<< (nI i &&& 31))) (cirN V)
      · rw [if_pos hm] at hs
        rw [hs] at s9
        skip
        refine x_iload dX6_bestWant_26 rfl ?_
        refine x_bipushv (v := 6) dX6_bestWant_28 (by decide) ?_
        refine x_icmp_ge 107 dX6_bestWant_30 (by decide) (fun c_30 => ?_) (fun c_30 => ?_)
        · exact absurd c_30 hlt
        · refine x_iload_n dX6_bestWant_33 rfl ?_
          refine x_iload dX6_bestWant_34 rfl ?_
          refine x_ishr dX6_bestWant_36 ?_
          refine x_iconstv (v := 1) dX6_bestWant_37 (by decide) ?_
          refine x_iand dX6_bestWant_38 ?_
          refine x_if_ne 101 dX6_bestWant_39 (by decide) (fun c_39 => ?_) (fun c_39 => ?_)
          · exact absurd hz c_39
          · refine x_aload_n dX6_bestWant_42 rfl ?_
            refine y_getR fkX6_7 dX6_bestWant_43 (by decide) rfl rfl ?_
            refine x_iload_n dX6_bestWant_46 rfl ?_
            refine x_iconstv (v := 1) dX6_bestWant_47 (by decide) ?_
            refine y_callS (as := [_, _]) okX6_at lkX6_59 dX6_bestWant_48 rfl ((r_at1k.more (d' := 6) (by omega))) (by omega) rfl (by simp [Value.category]) (Nat.le_of_ble_eq_true rfl) (cat8 rfl) ?_
            refine x_iload_n dX6_bestWant_51 rfl ?_
            refine x_iconstv (v := 1) dX6_bestWant_52 (by decide) ?_
            refine x_iload dX6_bestWant_53 rfl ?_
            refine x_ishl dX6_bestWant_55 ?_
            refine x_ior dX6_bestWant_56 ?_
            refine y_iastn (j := 23 + 5 * t) dX6_bestWant_57 (by decide) rfl (ixN (by omega)) (by omega) ?_
            refine x_aload_n dX6_bestWant_58 rfl ?_
            refine x_aload_n dX6_bestWant_59 rfl ?_
            refine y_getR fkX6_7 dX6_bestWant_60 (by decide) rfl rfl ?_
            refine x_bipushv (v := 7) dX6_bestWant_63 (by decide) ?_
            refine y_ialdn (j := 7) dX6_bestWant_65 (by decide) rfl (by decide) (by decide) ?_
            rw [e8]
            refine y_callV (as := [_]) okX6_mostWith lkX6_160 dX6_bestWant_66 rfl (by decide) rfl (s2) (by omega) rfl (by simp [Value.category]) (Nat.le_of_ble_eq_true rfl) rfl rfl (cat8 rfl) ?_
            refine x_istore dX6_bestWant_69 (by decide) rfl ?_
            refine x_iload dX6_bestWant_71 rfl ?_
            refine x_iload dX6_bestWant_73 rfl ?_
            refine x_icmp_le 83 dX6_bestWant_75 (by decide) (fun c_75 => ?_) (fun c_75 => ?_)
            · exact absurd hm (Int32.not_lt.mpr c_75)
            · refine x_iload dX6_bestWant_78 rfl ?_
              refine x_goto 84 dX6_bestWant_80 (by decide) ?_
              refine x_istore_n dX6_bestWant_84 (by decide) rfl ?_
              refine x_iload dX6_bestWant_85 rfl ?_
              refine x_iload dX6_bestWant_87 rfl ?_
              refine x_icmp_le 97 dX6_bestWant_89 (by decide) (fun c_89 => ?_) (fun c_89 => ?_)
              · exact absurd hm (Int32.not_lt.mpr c_89)
              · refine x_iload dX6_bestWant_92 rfl ?_
                refine x_goto 99 dX6_bestWant_94 (by decide) ?_
                refine x_istore dX6_bestWant_99 (by decide) rfl ?_
                refine x_iincv (v := 1) dX6_bestWant_101 rfl (by decide) rfl (by decide) ?_
                refine x_goto 26 dX6_bestWant_104 (by decide) ?_
                rw [nI_1]
                exact s9
      · rw [if_neg hm] at hs
        rw [hs] at s9
        skip
        refine x_iload dX6_bestWant_26 rfl ?_
        refine x_bipushv (v := 6) dX6_bestWant_28 (by decide) ?_
        refine x_icmp_ge 107 dX6_bestWant_30 (by decide) (fun c_30 => ?_) (fun c_30 => ?_)
        · exact absurd c_30 hlt
        · refine x_iload_n dX6_bestWant_33 rfl ?_
          refine x_iload dX6_bestWant_34 rfl ?_
          refine x_ishr dX6_bestWant_36 ?_
          refine x_iconstv (v := 1) dX6_bestWant_37 (by decide) ?_
          refine x_iand dX6_bestWant_38 ?_
          refine x_if_ne 101 dX6_bestWant_39 (by decide) (fun c_39 => ?_) (fun c_39 => ?_)
          · exact absurd hz c_39
          · refine x_aload_n dX6_bestWant_42 rfl ?_
            refine y_getR fkX6_7 dX6_bestWant_43 (by decide) rfl rfl ?_
            refine x_iload_n dX6_bestWant_46 rfl ?_
            refine x_iconstv (v := 1) dX6_bestWant_47 (by decide) ?_
            refine y_callS (as := [_, _]) okX6_at lkX6_59 dX6_bestWant_48 rfl ((r_at1k.more (d' := 6) (by omega))) (by omega) rfl (by simp [Value.category]) (Nat.le_of_ble_eq_true rfl) (cat8 rfl) ?_
            refine x_iload_n dX6_bestWant_51 rfl ?_
            refine x_iconstv (v := 1) dX6_bestWant_52 (by decide) ?_
            refine x_iload dX6_bestWant_53 rfl ?_
            refine x_ishl dX6_bestWant_55 ?_
            refine x_ior dX6_bestWant_56 ?_
            refine y_iastn (j := 23 + 5 * t) dX6_bestWant_57 (by decide) rfl (ixN (by omega)) (by omega) ?_
            refine x_aload_n dX6_bestWant_58 rfl ?_
            refine x_aload_n dX6_bestWant_59 rfl ?_
            refine y_getR fkX6_7 dX6_bestWant_60 (by decide) rfl rfl ?_
            refine x_bipushv (v := 7) dX6_bestWant_63 (by decide) ?_
            refine y_ialdn (j := 7) dX6_bestWant_65 (by decide) rfl (by decide) (by decide) ?_
            rw [e8]
            refine y_callV (as := [_]) okX6_mostWith lkX6_160 dX6_bestWant_66 rfl (by decide) rfl (s2) (by omega) rfl (by simp [Value.category]) (Nat.le_of_ble_eq_true rfl) rfl rfl (cat8 rfl) ?_
            refine x_istore dX6_bestWant_69 (by decide) rfl ?_
            refine x_iload dX6_bestWant_71 rfl ?_
            refine x_iload dX6_bestWant_73 rfl ?_
            refine x_icmp_le 83 dX6_bestWant_75 (by decide) (fun c_75 => ?_) (fun c_75 => ?_)
            · refine x_iload_n dX6_bestWant_83 rfl ?_
              refine x_istore_n dX6_bestWant_84 (by decide) rfl ?_
              refine x_iload dX6_bestWant_85 rfl ?_
              refine x_iload dX6_bestWant_87 rfl ?_
              refine x_icmp_le 97 dX6_bestWant_89 (by decide) (fun c_89 => ?_) (fun c_89 => ?_)
              · refine x_iload dX6_bestWant_97 rfl ?_
                refine x_istore dX6_bestWant_99 (by decide) rfl ?_
                refine x_iincv (v := 1) dX6_bestWant_101 rfl (by decide) rfl (by decide) ?_
                refine x_goto 26 dX6_bestWant_104 (by decide) ?_
                rw [nI_1]
                exact s9
              · exact absurd (Int32.not_le.mp c_89) hm
            · exact absurd (Int32.not_le.mp c_75) hm
    · have hs : bwF V t (i + 1) = bwF V t i := by rw [bwF, bwS, if_neg hz]
      obtain ⟨M9, s9, f9⟩ := ih (i + 1) M x l6 (by omega) hR
      rw [hs] at s9
      refine ⟨M9, ?_, f9⟩
      skip
      refine x_iload dX6_bestWant_26 rfl ?_
      refine x_bipushv (v := 6) dX6_bestWant_28 (by decide) ?_
      refine x_icmp_ge 107 dX6_bestWant_30 (by decide) (fun c_30 => ?_) (fun c_30 => ?_)
      · exact absurd c_30 hlt
      · refine x_iload_n dX6_bestWant_33 rfl ?_
        refine x_iload dX6_bestWant_34 rfl ?_
        refine x_ishr dX6_bestWant_36 ?_
        refine x_iconstv (v := 1) dX6_bestWant_37 (by decide) ?_
        refine x_iand dX6_bestWant_38 ?_
        refine x_if_ne 101 dX6_bestWant_39 (by decide) (fun c_39 => ?_) (fun c_39 => ?_)
        · refine x_iincv (v := 1) dX6_bestWant_101 rfl (by decide) rfl (by decide) ?_
          refine x_goto 26 dX6_bestWant_104 (by decide) ?_
          rw [nI_1]
          exact s9
        · exact absurd (by simpa using c_39) hz
theorem r_bestWant1 {M : Mem} (hV : WF (M 85)) {t : Nat} (ht : t < nT (M 85)) : ∃ M' : Mem, Y 7 mX6_bestWant 0 (lent 7 [.ref 84, .int (nI t)]) [] M (some (.int ((bwF (M 85) t 6).1))) M' ∧ FS M M' := by
  have h7 := b6 hV ht
  have hh := r_isTrader hV (t := nI t)
  rw [hasB_nI hV (by omega), decide_eq_true ht] at hh
  obtain ⟨M9, s9, f7, f8, f9⟩ := r_bw_loop hV ht 6 0 M (M 85 (23 + 5 * t)) none (by omega) upd_id.symm
  refine ⟨M9, ?_, fun c hc => ?_, f9⟩
  rotate_left
  · by_cases h : c = 85
    · subst h; exact f7
    · exact f8 c (by omega) h (by omega) (by omega) (by omega)
  skip
  refine x_aload_n dX6_bestWant_0 rfl ?_
  refine x_iload_n dX6_bestWant_1 rfl ?_
  refine y_callV (as := [_]) okX6_isTrader lkX6_55 dX6_bestWant_2 rfl (by decide) rfl ((hh.more (d' := 6) (by omega))) (by omega) rfl (by simp [Value.category]) (Nat.le_of_ble_eq_true rfl) rfl rfl (cat8 rfl) ?_
  refine x_if_ne 10 dX6_bestWant_5 (by decide) (fun c_5 => ?_) (fun c_5 => ?_)
  · refine x_aload_n dX6_bestWant_10 rfl ?_
    refine x_iload_n dX6_bestWant_11 rfl ?_
    refine x_iconstv (v := 1) dX6_bestWant_12 (by decide) ?_
    refine y_callV (as := [_, _]) okX6_of lkX6_65 dX6_bestWant_13 rfl (by decide) rfl (((r_of1 h7).more (d' := 6) (by omega))) (by omega) rfl (by simp [Value.category]) (Nat.le_of_ble_eq_true rfl) rfl rfl (cat8 rfl) ?_
    refine x_istore_n dX6_bestWant_16 (by decide) rfl ?_
    refine x_bipushv (v := -4) dX6_bestWant_17 (by decide) ?_
    refine x_istore_n dX6_bestWant_19 (by decide) rfl ?_
    refine x_iconstv (v := -1) dX6_bestWant_20 (by decide) ?_
    refine x_istore dX6_bestWant_21 (by decide) rfl ?_
    refine x_iconstv (v := 0) dX6_bestWant_23 (by decide) ?_
    refine x_istore dX6_bestWant_24 (by decide) rfl ?_
    exact s9
  · exact absurd c_5 (by decide)
theorem r_bestWant0 {M : Mem} (hV : WF (M 85)) {t : Int32} (hx : hasB (M 85) t = false) : Y 7 mX6_bestWant 0 (lent 7 [.ref 84, .int t]) [] M (some (.int (-1))) M := by
  have hh := r_isTrader hV (t := t)
  rw [hx] at hh
  skip
  refine x_aload_n dX6_bestWant_0 rfl ?_
  refine x_iload_n dX6_bestWant_1 rfl ?_
  refine y_callV (as := [_]) okX6_isTrader lkX6_55 dX6_bestWant_2 rfl (by decide) rfl ((hh.more (d' := 6) (by omega))) (by omega) rfl (by simp [Value.category]) (Nat.le_of_ble_eq_true rfl) rfl rfl (cat8 rfl) ?_
  refine x_if_ne 10 dX6_bestWant_5 (by decide) (fun c_5 => ?_) (fun c_5 => ?_)
  · exact absurd c_5 (by decide)
  · refine x_iconstv (v := -1) dX6_bestWant_8 (by decide) ?_
    exact y_ret dX6_bestWant_9 rfl (rfl) (rfl) (rfl)
