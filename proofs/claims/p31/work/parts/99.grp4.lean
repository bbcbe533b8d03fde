theorem y_id_loop {V : Row} (hG : Good V) {D : Nat} (hD : D ≤ 20) {wh : Int32} {r : Option Value} {Q : Mem → Prop} : ∀ (k i : Nat) (M : Mem), i + k = D → RM M 1 V → RM M 11 (itD V i) → (∀ M9 : Mem, RM M9 1 V → RM M9 11 (itD V D) → (∀ c, c < 11 ∨ (20 < c ∧ c < 80) ∨ 83 < c → M9 c = M c) → ∃ M' : Mem, Y 19 mX5_ifDays 63 [some (.ref 0), some (.int (nI D)), some (.int wh), some (.int (nI D))] [] M9 r M' ∧ Q M') → ∃ M' : Mem, Y 19 mX5_ifDays 35 [some (.ref 0), some (.int (nI D)), some (.int wh), some (.int (nI i))] [] M r M' ∧ Q M' := by
  intro k
  induction k with
  | zero =>
    intro i M hi hR hT hk
    have hiD : i = D := by omega
    subst hiD
    obtain ⟨M9, s9, q9⟩ := hk M hR hT (fun _ _ => rfl)
    refine ⟨M9, ?_, q9⟩
    skip
    refine x_iload_n dX5_ifDays_35 rfl ?_
    refine x_iload_n dX5_ifDays_36 rfl ?_
    refine x_icmp_ge 63 dX5_ifDays_37 (by decide) (fun c_37 => ?_) (fun c_37 => ?_)
    · exact s9
    · exact absurd (Int32.le_refl _) c_37
  | succ k ih =>
    intro i M hi hR hT hk
    have hlt := nI_ge (a := i) (b := D) (by omega) (by omega)
    obtain ⟨M1, s1, r1, f1⟩ := y_callMarket mk11 hT (WF_itD hG i) (by decide)
    obtain ⟨M2, s2, r2, f2⟩ := y_passDay mk11 r1 (Good_callW (Good_itD hG i))
    have hfr : ∀ c, c < 11 ∨ (20 < c ∧ c < 80) ∨ 83 < c → M2 c = M c := fun c hc => (f2 c (by omega)).trans (f1 c (by omega) (by omega) (by omega) (by omega) (by omega))
    obtain ⟨M9, s9, q9⟩ := ih (i + 1) M2 (by omega) (RM_congr (fun c a b => hfr c (by omega)) hR) r2 (fun M9 a b c => hk M9 a b (fun x hx => (c x hx).trans (hfr x hx)))
    refine ⟨M9, ?_, q9⟩
    skip
    refine x_iload_n dX5_ifDays_35 rfl ?_
    refine x_iload_n dX5_ifDays_36 rfl ?_
    refine x_icmp_ge 63 dX5_ifDays_37 (by decide) (fun c_37 => ?_) (fun c_37 => ?_)
    · exact absurd c_37 hlt
    · refine x_aload_n dX5_ifDays_40 rfl ?_
      refine x_aload_n dX5_ifDays_41 rfl ?_
      refine y_getR fkX5_16 dX5_ifDays_42 (by decide) rfl rfl ?_
      refine y_callV (as := [_]) okX5_callMarket lkX5_106 dX5_ifDays_45 rfl (by decide) rfl (s1) (by omega) rfl (by simp [Value.category]) (Nat.le_of_ble_eq_true rfl) rfl rfl (cat8 rfl) ?_
      refine x_pop_i dX5_ifDays_48 ?_
      refine x_aload_n dX5_ifDays_49 rfl ?_
      refine y_getR fkX5_16 dX5_ifDays_50 (by decide) rfl rfl ?_
      refine y_callV0 okX2_passDay lkX5_110 dX5_ifDays_53 (by decide) rfl ((s2.more (d' := 18) (by omega))) (by omega) (Nat.le_of_ble_eq_true rfl) rfl rfl (cat8 rfl) ?_
      refine x_pop_i dX5_ifDays_56 ?_
      refine x_iincv (v := 1) dX5_ifDays_57 rfl (by decide) rfl (by decide) ?_
      refine x_goto 35 dX5_ifDays_60 (by decide) ?_
      rw [nI_1]
      exact s9
theorem y_ifDays_0 {M : Mem} {V : Row} (hR : RM M 1 V) (hG : Good V) {D : Nat} (h1 : 1 ≤ D) (hD : D ≤ 20) : ∃ M' : Mem, Y 19 mX5_ifDays 0 (lent 4 [.ref 0, .int (nI D), .int (nI 0)]) [] M (some (.int (itD V D 2 - V 2))) M' ∧ ∀ c, c < 11 ∨ (20 < c ∧ c < 80) ∨ 83 < c → M' c = M c := by
  have hV := hG.1
  have hcp := y_copyFrom (M := M) mk11 mk1
  have hR2 := RM_cf (o := 11) hR (WF_n hV).1 (by omega)
  have hR1 : RM (cfM M 11 1) 1 V := RM_congr (fun c a b => cf_ne (by omega)) hR
  obtain ⟨M9, s9, q9⟩ := y_id_loop hG hD (wh := nI 0) (r := (some (.int (itD V D 2 - V 2)))) (Q := fun M' => ∀ c, c < 11 ∨ (20 < c ∧ c < 80) ∨ 83 < c → M' c = M c) D 0 (cfM M 11 1) (by omega) hR1 hR2 (fun M9 a b c => by
    refine ⟨M9, ?_, fun x hx => (c x hx).trans (cf_ne (by omega))⟩
    have hW := WF_itD hG D
    skip
    refine x_iload_n dX5_ifDays_63 rfl ?_
    refine x_lookup (off := 28) 92 dX5_ifDays_64 (by decide) (by decide) (by decide) ?_
    refine x_aload_n dX5_ifDays_92 rfl ?_
    refine y_getR fkX5_16 dX5_ifDays_93 (by decide) rfl rfl ?_
    refine y_callV0 okX2_needsMet lkX5_141 dX5_ifDays_96 (by decide) rfl (((y_needsMet mk11 b hW).more (d' := 18) (by omega))) (by omega) (Nat.le_of_ble_eq_true rfl) rfl rfl (cat8 rfl) ?_
    refine x_aload_n dX5_ifDays_99 rfl ?_
    refine y_getR fkX5_10 dX5_ifDays_100 (by decide) rfl rfl ?_
    refine y_callV0 okX2_needsMet lkX5_141 dX5_ifDays_103 (by decide) rfl (((y_needsMet mk1 a hV).more (d' := 18) (by omega))) (by omega) (Nat.le_of_ble_eq_true rfl) rfl rfl (cat8 rfl) ?_
    refine x_isub dX5_ifDays_106 ?_
    exact y_ret dX5_ifDays_107 rfl (rfl) (rfl) (rfl))
  refine ⟨M9, ?_, q9⟩
  have hlo : ¬ nI D < 1 := nI_nlt (a := D) (b := 1) h1 (by omega)
  have hhi : nI D ≤ 20 := nI_le (a := D) (b := 20) hD (by decide)
  skip
  refine x_iload_n dX5_ifDays_0 rfl ?_
  refine x_iconstv (v := 1) dX5_ifDays_1 (by decide) ?_
  refine x_icmp_lt 20 dX5_ifDays_2 (by decide) (fun c_2 => ?_) (fun c_2 => ?_)
  · exact absurd c_2 hlo
  · refine x_iload_n dX5_ifDays_5 rfl ?_
    refine x_bipushv (v := 20) dX5_ifDays_6 (by decide) ?_
    refine x_icmp_gt 20 dX5_ifDays_8 (by decide) (fun c_8 => ?_) (fun c_8 => ?_)
    · exact absurd hhi (Int32.not_le.mpr (by simpa using c_8))
    · refine x_iload_n dX5_ifDays_11 rfl ?_
      refine x_if_lt 20 dX5_ifDays_12 (by decide) (fun c_12 => ?_) (fun c_12 => ?_)
      · exact absurd c_12 (by decide)
      · refine x_iload_n dX5_ifDays_15 rfl ?_
        refine x_iconstv (v := 2) dX5_ifDays_16 (by decide) ?_
        refine x_icmp_le 22 dX5_ifDays_17 (by decide) (fun c_17 => ?_) (fun c_17 => ?_)
        · refine x_aload_n dX5_ifDays_22 rfl ?_
          refine y_getR fkX5_16 dX5_ifDays_23 (by decide) rfl rfl ?_
          refine x_aload_n dX5_ifDays_26 rfl ?_
          refine y_getR fkX5_10 dX5_ifDays_27 (by decide) rfl rfl ?_
          refine y_callV (as := [_]) okX2_copyFrom lkX5_243 dX5_ifDays_30 rfl (by decide) rfl ((hcp.more (d' := 18) (by omega))) (by omega) rfl (by simp [Value.category]) (Nat.le_of_ble_eq_true rfl) rfl rfl (cat8 rfl) ?_
          refine x_iconstv (v := 0) dX5_ifDays_33 (by decide) ?_
          refine x_istore_n dX5_ifDays_34 (by decide) rfl ?_
          exact s9
        · exact absurd c_17 (by decide)
theorem y_ifDays_1 {M : Mem} {V : Row} (hR : RM M 1 V) (hG : Good V) {D : Nat} (h1 : 1 ≤ D) (hD : D ≤ 20) : ∃ M' : Mem, Y 19 mX5_ifDays 0 (lent 4 [.ref 0, .int (nI D), .int (nI 1)]) [] M (some (.int (itD V D 3 - V 3))) M' ∧ ∀ c, c < 11 ∨ (20 < c ∧ c < 80) ∨ 83 < c → M' c = M c := by
  have hV := hG.1
  have hcp := y_copyFrom (M := M) mk11 mk1
  have hR2 := RM_cf (o := 11) hR (WF_n hV).1 (by omega)
  have hR1 : RM (cfM M 11 1) 1 V := RM_congr (fun c a b => cf_ne (by omega)) hR
  obtain ⟨M9, s9, q9⟩ := y_id_loop hG hD (wh := nI 1) (r := (some (.int (itD V D 3 - V 3)))) (Q := fun M' => ∀ c, c < 11 ∨ (20 < c ∧ c < 80) ∨ 83 < c → M' c = M c) D 0 (cfM M 11 1) (by omega) hR1 hR2 (fun M9 a b c => by
    refine ⟨M9, ?_, fun x hx => (c x hx).trans (cf_ne (by omega))⟩
    have hW := WF_itD hG D
    skip
    refine x_iload_n dX5_ifDays_63 rfl ?_
    refine x_lookup (off := 44) 108 dX5_ifDays_64 (by decide) (by decide) (by decide) ?_
    refine x_aload_n dX5_ifDays_108 rfl ?_
    refine y_getR fkX5_16 dX5_ifDays_109 (by decide) rfl rfl ?_
    refine y_getI fkX5_222 dX5_ifDays_112 (by decide) rfl rfl ?_
    refine x_aload_n dX5_ifDays_115 rfl ?_
    refine y_getR fkX5_10 dX5_ifDays_116 (by decide) rfl rfl ?_
    refine y_getI fkX5_222 dX5_ifDays_119 (by decide) rfl rfl ?_
    refine x_isub dX5_ifDays_122 ?_
    exact y_ret dX5_ifDays_123 rfl (rfl) ((by rw [b.1.2.2.2.2.2.1, a.1.2.2.2.2.2.1])) (rfl))
  refine ⟨M9, ?_, q9⟩
  have hlo : ¬ nI D < 1 := nI_nlt (a := D) (b := 1) h1 (by omega)
  have hhi : nI D ≤ 20 := nI_le (a := D) (b := 20) hD (by decide)
  skip
  refine x_iload_n dX5_ifDays_0 rfl ?_
  refine x_iconstv (v := 1) dX5_ifDays_1 (by decide) ?_
  refine x_icmp_lt 20 dX5_ifDays_2 (by decide) (fun c_2 => ?_) (fun c_2 => ?_)
  · exact absurd c_2 hlo
  · refine x_iload_n dX5_ifDays_5 rfl ?_
    refine x_bipushv (v := 20) dX5_ifDays_6 (by decide) ?_
    refine x_icmp_gt 20 dX5_ifDays_8 (by decide) (fun c_8 => ?_) (fun c_8 => ?_)
    · exact absurd hhi (Int32.not_le.mpr (by simpa using c_8))
    · refine x_iload_n dX5_ifDays_11 rfl ?_
      refine x_if_lt 20 dX5_ifDays_12 (by decide) (fun c_12 => ?_) (fun c_12 => ?_)
      · exact absurd c_12 (by decide)
      · refine x_iload_n dX5_ifDays_15 rfl ?_
        refine x_iconstv (v := 2) dX5_ifDays_16 (by decide) ?_
        refine x_icmp_le 22 dX5_ifDays_17 (by decide) (fun c_17 => ?_) (fun c_17 => ?_)
        · refine x_aload_n dX5_ifDays_22 rfl ?_
          refine y_getR fkX5_16 dX5_ifDays_23 (by decide) rfl rfl ?_
          refine x_aload_n dX5_ifDays_26 rfl ?_
          refine y_getR fkX5_10 dX5_ifDays_27 (by decide) rfl rfl ?_
          refine y_callV (as := [_]) okX2_copyFrom lkX5_243 dX5_ifDays_30 rfl (by decide) rfl ((hcp.more (d' := 18) (by omega))) (by omega) rfl (by simp [Value.category]) (Nat.le_of_ble_eq_true rfl) rfl rfl (cat8 rfl) ?_
          refine x_iconstv (v := 0) dX5_ifDays_33 (by decide) ?_
          refine x_istore_n dX5_ifDays_34 (by decide) rfl ?_
          exact s9
        · exact absurd c_17 (by decide)
theorem y_ifDays_2 {M : Mem} {V : Row} (hR : RM M 1 V) (hG : Good V) {D : Nat} (h1 : 1 ≤ D) (hD : D ≤ 20) : ∃ M' : Mem, Y 19 mX5_ifDays 0 (lent 4 [.ref 0, .int (nI D), .int (nI 2)]) [] M (some (.int (needsV (itD V D)))) M' ∧ ∀ c, c < 11 ∨ (20 < c ∧ c < 80) ∨ 83 < c → M' c = M c := by
  have hV := hG.1
  have hcp := y_copyFrom (M := M) mk11 mk1
  have hR2 := RM_cf (o := 11) hR (WF_n hV).1 (by omega)
  have hR1 : RM (cfM M 11 1) 1 V := RM_congr (fun c a b => cf_ne (by omega)) hR
  obtain ⟨M9, s9, q9⟩ := y_id_loop hG hD (wh := nI 2) (r := (some (.int (needsV (itD V D))))) (Q := fun M' => ∀ c, c < 11 ∨ (20 < c ∧ c < 80) ∨ 83 < c → M' c = M c) D 0 (cfM M 11 1) (by omega) hR1 hR2 (fun M9 a b c => by
    refine ⟨M9, ?_, fun x hx => (c x hx).trans (cf_ne (by omega))⟩
    have hW := WF_itD hG D
    skip
    refine x_iload_n dX5_ifDays_63 rfl ?_
    refine x_lookup (off := 60) 124 dX5_ifDays_64 (by decide) (by decide) (by decide) ?_
    refine x_aload_n dX5_ifDays_124 rfl ?_
    refine y_getR fkX5_16 dX5_ifDays_125 (by decide) rfl rfl ?_
    refine y_callV0 okX2_needs lkX5_213 dX5_ifDays_128 (by decide) rfl (((y_needs mk11 b hW).more (d' := 18) (by omega))) (by omega) (Nat.le_of_ble_eq_true rfl) rfl rfl (cat8 rfl) ?_
    exact y_ret dX5_ifDays_131 rfl (rfl) (rfl) (rfl))
  refine ⟨M9, ?_, q9⟩
  have hlo : ¬ nI D < 1 := nI_nlt (a := D) (b := 1) h1 (by omega)
  have hhi : nI D ≤ 20 := nI_le (a := D) (b := 20) hD (by decide)
  skip
  refine x_iload_n dX5_ifDays_0 rfl ?_
  refine x_iconstv (v := 1) dX5_ifDays_1 (by decide) ?_
  refine x_icmp_lt 20 dX5_ifDays_2 (by decide) (fun c_2 => ?_) (fun c_2 => ?_)
  · exact absurd c_2 hlo
  · refine x_iload_n dX5_ifDays_5 rfl ?_
    refine x_bipushv (v := 20) dX5_ifDays_6 (by decide) ?_
    refine x_icmp_gt 20 dX5_ifDays_8 (by decide) (fun c_8 => ?_) (fun c_8 => ?_)
    · exact absurd hhi (Int32.not_le.mpr (by simpa using c_8))
    · refine x_iload_n dX5_ifDays_11 rfl ?_
      refine x_if_lt 20 dX5_ifDays_12 (by decide) (fun c_12 => ?_) (fun c_12 => ?_)
      · exact absurd c_12 (by decide)
      · refine x_iload_n dX5_ifDays_15 rfl ?_
        refine x_iconstv (v := 2) dX5_ifDays_16 (by decide) ?_
        refine x_icmp_le 22 dX5_ifDays_17 (by decide) (fun c_17 => ?_) (fun c_17 => ?_)
        · refine x_aload_n dX5_ifDays_22 rfl ?_
          refine y_getR fkX5_16 dX5_ifDays_23 (by decide) rfl rfl ?_
          refine x_aload_n dX5_ifDays_26 rfl ?_
          refine y_getR fkX5_10 dX5_ifDays_27 (by decide) rfl rfl ?_
          refine y_callV (as := [_]) okX2_copyFrom lkX5_243 dX5_ifDays_30 rfl (by decide) rfl ((hcp.more (d' := 18) (by omega))) (by omega) rfl (by simp [Value.category]) (Nat.le_of_ble_eq_true rfl) rfl rfl (cat8 rfl) ?_
          refine x_iconstv (v := 0) dX5_ifDays_33 (by decide) ?_
          refine x_istore_n dX5_ifDays_34 (by decide) rfl ?_
          exact s9
        · exact absurd c_17 (by decide)
theorem y_ifDays0 {M : Mem} {d w : Int32} (hx : ¬ ((1 ≤ d ∧ d ≤ 20) ∧ (0 ≤ w ∧ w ≤ 2))) : Y 19 mX5_ifDays 0 (lent 4 [.ref 0, .int d, .int w]) [] M (some (.int (-1))) M := by
  skip
  refine x_iload_n dX5_ifDays_0 rfl ?_
  refine x_iconstv (v := 1) dX5_ifDays_1 (by decide) ?_
  refine x_icmp_lt 20 dX5_ifDays_2 (by decide) (fun c_2 => ?_) (fun c_2 => ?_)
  · refine x_iconstv (v := -1) dX5_ifDays_20 (by decide) ?_
    exact y_ret dX5_ifDays_21 rfl (rfl) (rfl) (rfl)
  · refine x_iload_n dX5_ifDays_5 rfl ?_
    refine x_bipushv (v := 20) dX5_ifDays_6 (by decide) ?_
    refine x_icmp_gt 20 dX5_ifDays_8 (by decide) (fun c_8 => ?_) (fun c_8 => ?_)
    · refine x_iconstv (v := -1) dX5_ifDays_20 (by decide) ?_
      exact y_ret dX5_ifDays_21 rfl (rfl) (rfl) (rfl)
    · refine x_iload_n dX5_ifDays_11 rfl ?_
      refine x_if_lt 20 dX5_ifDays_12 (by decide) (fun c_12 => ?_) (fun c_12 => ?_)
      · refine x_iconstv (v := -1) dX5_ifDays_20 (by decide) ?_
        exact y_ret dX5_ifDays_21 rfl (rfl) (rfl) (rfl)
      · refine x_iload_n dX5_ifDays_15 rfl ?_
        refine x_iconstv (v := 2) dX5_ifDays_16 (by decide) ?_
        refine x_icmp_le 22 dX5_ifDays_17 (by decide) (fun c_17 => ?_) (fun c_17 => ?_)
        · exact absurd ⟨⟨Int32.not_lt.mp c_2, Int32.not_lt.mp c_8⟩, Int32.not_lt.mp c_12, c_17⟩ hx
        · refine x_iconstv (v := -1) dX5_ifDays_20 (by decide) ?_
          exact y_ret dX5_ifDays_21 rfl (rfl) (rfl) (rfl)
