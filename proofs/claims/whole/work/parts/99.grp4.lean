theorem y_id_loop {V : Row} (hG : Good V) {D : Nat} (hD : D ≤ 20) {wh : Int32} {r : Option Value} {Q : Mem → Prop} : ∀ (k i : Nat) (M : Mem), i + k = D → RM M 1 V → RM M 11 (itD V i) → (∀ M9 : Mem, RM M9 1 V → RM M9 11 (itD V D) → (∀ c, c < 11 ∨ (20 < c ∧ c < 80) ∨ 83 < c → M9 c = M c) → ∃ M' : Mem, Y 19 mX5_ifDays 63 [some (.ref 0), some (.int (nI D)), some (.int wh), some (.int (nI D))] [] M9 r M' ∧ Q M') → ∃ M' : Mem, Y 19 mX5_ifDays 35 [some (.ref 0), some (.int (nI D)), some (.int wh), some (.int (nI i))] [] M r M' ∧ Q M' := by
  intro k
  induction k with
  | zero =>
    intro i M hi hR hT hk
    have hiD : i = D := by omega
    subst hiD
    obtain ⟨M9, s9, q9⟩ := hk M hR hT (fun _ _ => rfl)
    refine ⟨M9, ?_, q9⟩
    skip
    refine x_iload_n dX5_ifDays_35 rfl ?_
    refine x_iload_n dX5_ifDays_36 rfl ?_
    refine x_icmp_ge 63 dX5_ifDays_37 (by decide) (fun c_37 => ?_) (fun c_37 => ?_)
    · exact s9
    · exact absurd (Int32.le_refl _) c_37
  | succ k ih =>
    intro i M hi hR hT hk
    have hlt := nI_ge (a := i) (b := D) (by omega) (by omega)
    obtain ⟨M1, s1, r1, f1⟩ := y_callMarket mk11 hT (WF_itD hG i) (by decide)
    obtain ⟨M2, s2, r2, f2⟩ := y_passDay mk11 r1 (Good_callW (Good_itD hG i))
    have hfr : ∀ c, c < 11 ∨ (20 < c ∧ c < 80) ∨ 83 < c → M2 c = M c := fun c hc => (f2 c (by omega)).trans (f1 c (by omega) (by omega) (by omega) (by omega) (by omega))
    obtain ⟨M9, s9, q9⟩ := ih (i + 1) M2 (by omega) (RM_congr (fun c a b => hfr c (by omega)) hR) r2 (fun M9 a b c => hk M9 a b (fun x hx => (c x hx).trans (hfr x hx)))
    refine ⟨M9, ?_, q9⟩
    skip
    refine x_iload_n dX5_ifDays_35 rfl ?_
    refine x_iload_n dX5_ifDays_36 rfl ?_
    refine x_icmp_ge 63 dX5_ifDays_37 (by decide) (fun c_37 => ?_) (fun c_37 => ?_)
    · exact absurd c_37 hlt
    · refine x_aload_n dX5_ifDays_40 rfl ?_
      refine x_aload_n dX5_ifDays_41 rfl ?_
      refine y_getR fkX5_16 dX5_ifDays_42 (by decide) rfl rfl ?_
      refine y_callV (as := [_]) okX5_callMarket lkX5_106 dX5_ifDays_45 rfl (by decide) rfl (s1) (by omega) rfl (by simp [Value.category]) (Nat.le_of_ble_eq_true rfl) rfl rfl (cat8 rfl) ?_
      refine x_pop_i dX5_ifDays_48 ?_
      refine x_aload_n dX5_ifDays_49 rfl ?_
      refine y_getR fkX5_16 dX5_ifDays_50 (by decide) rfl rfl ?_
      refine y_callV0 okX2_passDay lkX5_110 dX5_ifDays_53 (by decide) rfl ((s2.more (d' := 18) (by omega))) (by omega) (Nat.le_of_ble_eq_true rfl) rfl rfl (cat8 rfl) ?_
      refine x_pop_i dX5_ifDays_56 ?_
      refine x_iincv (v := 1) dX5_ifDays_57 rfl (by decide) rfl (by decide) ?_
      refine x_goto 35 dX5_ifDays_60 (by decide) ?_
      rw [nI_1]
      exact s9
theorem y_ifDays_0 {M : Mem} {V : Row} (hR : RM M 1 V) (hG : Good V) {D : Nat} (h1 : 1 ≤ D) (hD : D ≤ 20) : ∃ M' : Mem, Y 19 mX5_ifDays 0 (lent 4 [.ref 0, .int (nI D), .int (nI 0)]) [] M (some (.int (itD V D 2 - V 2))) M' ∧ ∀ c, c < 11 ∨ (20 < c ∧ c < 80) ∨ 83 < c → M' c = M c := by
  have hV := hG.1
  have hcp := y_copyFrom (M := M) mk11 mk1
  have hR2 := RM_cf (o := 11) hR (WF_n hV).1 (by omega)
  have hR1 : RM (cfM M 11 1) 1 V := RM_congr (fun c a b => cf_ne (by omega)) hR
  obtain ⟨M9, s9, q9⟩ := y_id_loop hG hD (wh := nI 0) (r := (some (.int (itD V D 2 - V 2)))) (Q := fun M' => ∀ c, c < 11 ∨ (20 < c ∧ c < 80) ∨ 83 < c → M' c = M c) D 0 (cfM M 11 1) (by omega) hR1 hR2 (fun M9 a b c => by
    refine ⟨M9, ?_, fun x hx => (c x hx).trans (cf_ne (by omega))⟩
    have hW := WF_itD hG D
    skip
    refine x_iload_n dX5_ifDays_63 rfl ?_
    refine x_lookup (off := 28) 92 dX5_ifDays_64 (by decide) (by decide) (by decide) ?_
    refine x_aload_n dX5_ifDays_92 rfl ?_
    refine y_getR fkX5_16 dX5_ifDays_93 (by decide) rfl rfl ?_
    refine y_callV0 okX2_needsMet lkX5_141 dX5_ifDays_96 (by decide) rfl (((y_needsMet mk11 b hW).more (d' := 18) (by omega))) (by omega) (Nat.le_of_ble_eq_true rfl) rfl rfl (cat8 rfl) ?_
    refine x_aload_n dX5_ifDays_99 rfl ?_
    refine y_getR fkX5_10 dX5_ifDays_100 (by decide) rfl rfl ?_
    refine y_callV0 okX2_needsMet lkX5_141 dX5_ifDays_103 (by decide) rfl (((y_needsMet mk1 a hV).more (d' := 18) (by omega))) (by omega) (Nat.le_of_ble_eq_true rfl) rfl rfl (cat8 rfl) ?_
    refine x_isub dX5_ifDays_106 ?_
    exact y_ret dX5_ifDays_107 rfl (rfl) (rfl) (rfl))
  refine ⟨M9, ?_, q9⟩
  have hlo : ¬ nI D < 1 := nI_nlt (a := D) (b := 1) h1 (by omega)
  have hhi : nI D ≤ 20 := nI_le (a := D) (b := 20) hD (by decide)
  skip
  refine x_iload_n dX5_ifDays_0 rfl ?_
  refine x_iconstv (v := 1) dX5_ifDays_1 (by decide) ?_
  refine x_icmp_lt 20 dX5_ifDays_2 (by decide) (fun c_2 => ?_) (fun c_2 => ?_)
  · exact absurd c_2 hlo
  · refine x_iload_n dX5_ifDays_5 rfl ?_
    refine x_bipushv (v := 20) dX5_ifDays_6 (by decide) ?_
    refine x_icmp_gt 20 dX5_ifDays_8 (by decide) (fun c_8 => ?_) (fun c_8 => ?_)
    · exact absurd hhi (Int32.not_le.mpr (by simpa using c_8))
    · refine x_iload_n dX5_ifDays_11 rfl ?_
      refine x_if_lt 20 dX5_ifDays_12 (by decide) (fun c_12 => ?_) (fun c_12 => ?_)
      · exact absurd c_12 (by decide)
      · refine x_iload_n dX5_ifDays_15 rfl ?_
        refine x_iconstv (v := 2) dX5_ifDays_16 (by decide) ?_
        refine x_icmp_le 22 dX5_ifDays_17 (by decide) (fun c_17 => ?_) (fun c_17 => ?_)
        · refine x_aload_n dX5_ifDays_22 rfl ?_
          refine y_getR fkX5_16 dX5_ifDays_23 (by decide) rfl rfl ?_
          refine x_aload_n dX5_ifDays_26 rfl ?_
          refine y_getR fkX5_10 dX5_ifDays_27 (by decide) rfl rfl ?_
          refine y_callV (as := [_]) okX2_copyFrom lkX5_243 dX5_ifDays_30 rfl (by decide) rfl ((hcp.more (d' := 18) (by omega))) (by omega) rfl (by simp [Value.category]) (Nat.le_of_ble_eq_true rfl) rfl rfl (cat8 rfl) ?_
          refine x_iconstv (v := 0) dX5_ifDays_33 (by decide) ?_
          refine x_istore_n dX5_ifDays_34 (by decide) rfl ?_
          exact s9
        · exact absurd c_17 (by decide)
theorem y_ifDays_1 {M : Mem} {V : Row} (hR : RM M 1 V) (hG : Good V) {D : Nat} (h1 : 1 ≤ D) (hD : D ≤ 20) : ∃ M' : Mem, Y 19 mX5_ifDays 0 (lent 4 [.ref 0, .int (nI D), .int (nI 1)]) [] M (some (.int (itD V D 3 - V 3))) M' ∧ ∀ c, c < 11 ∨ (20 < c ∧ c < 80) ∨ 83 < c → M' c = M c := by
  have hV := hG.1
  have hcp := y_copyFrom (M := M) mk11 mk1
  have hR2 := RM_cf (o := 11) hR (WF_n hV).1 (by omega)
  have hR1 : RM (cfM M 11 1) 1 V := RM_congr (fun c a b => cf_ne (by omega)) hR
  obtain ⟨M9, s9, q9⟩ := y_id_loop hG hD (wh := nI 1) (r := (some (.int (itD V D 3 - V 3)))) (Q := fun M' => ∀ c, c < 11 ∨ (20 < c ∧ c < 80) ∨ 83 < c → M' c = M c) D 0 (cfM M 11 1) (by omega) hR1 hR2 (fun M9 a b c => by
    refine ⟨M9, ?_, fun x hx => (c x hx).trans (cf_ne (by omega))⟩
    have hW := WF_itD hG D
    skip
    refine x_iload_n dX5_ifDays_63 rfl ?_
    refine x_lookup (off := 44) 108 dX5_ifDays_64 (by decide) (by decide) (by decide) ?_
    refine x_aload_n dX5_ifDays_108 rfl ?_
    refine y_getR fkX5_16 dX5_ifDays_109 (by decide) rfl rfl ?_
    refine y_getI fkX5_222 dX5_ifDays_112 (by decide) rfl rfl ?_
    refine x_aload_n dX5_ifDays_115 rfl ?_
    refine y_getR fkX5_10 dX5_ifDays_116 (by decide) rfl rfl ?_
    refine y_getI fkX5_222 dX5_ifDays_119 (by decide) rfl rfl ?_
    refine x_isub dX5_ifDays_122 ?_
    exact y_ret dX5_ifDays_123 rfl (rfl) ((by rw [b.1.2.2.2.2.2.1, a.1.2.2.2.2.2.1])) (rfl))
  refine ⟨M9, ?_, q9⟩
  have hlo : ¬ nI D < 1 := nI_nlt (a := D) (b := 1) h1 (by omega)
  have hhi : nI D ≤ 20 := nI_le (a := D) (b := 20) hD (by decide)
  skip
  refine x_iload_n dX5_ifDays_0 rfl ?_
  refine x_iconstv (v := 1) dX5_ifDays_1 (by decide) ?_
  refine x_icmp_lt 20 dX5_ifDays_2 (by decide) (fun c_2 => ?_) (fun c_2 => ?_)
  · exact absurd c_2 hlo
  · refine x_iload_n dX5_ifDays_5 rfl ?_
    refine x_bipushv (v := 20) dX5_ifDays_6 (by decide) ?_
    refine x_icmp_gt 20 dX5_ifDays_8 (by decide) (fun c_8 => ?_) (fun c_8 => ?_)
    · exact absurd hhi (Int32.not_le.mpr (by simpa using c_8))
    · refine x_iload_n dX5_ifDays_11 rfl ?_
      refine x_if_lt 20 dX5_ifDays_12 (by decide) (fun c_12 => ?_) (fun c_12 => ?_)
      · exact absurd c_12 (by decide)
      · refine x_iload_n dX5_ifDays_15 rfl ?_
        refine x_iconstv (v := 2) dX5_ifDays_16 (by decide) ?_
        refine x_icmp_le 22 dX5_ifDays_17 (by decide) (fun c_17 => ?_) (fun c_17 => ?_)
        · refine x_aload_n dX5_ifDays_22 rfl ?_
          refine y_getR fkX5_16 dX5_ifDays_23 (by decide) rfl rfl ?_
          refine x_aload_n dX5_ifDays_26 rfl ?_
          refine y_getR fkX5_10 dX5_ifDays_27 (by decide) rfl rfl ?_
          refine y_callV (as := [_]) okX2_copyFrom lkX5_243 dX5_ifDays_30 rfl (by decide) rfl ((hcp.more (d' := 18) (by omega))) (by omega) rfl (by simp [Value.category]) (Nat.le_of_ble_eq_true rfl) rfl rfl (cat8 rfl) ?_
          refine x_iconstv (v := 0) dX5_ifDays_33 (by decide) ?_
          refine x_istore_n dX5_ifDays_34 (by decide) rfl ?_
          exact s9
        · exact absurd c_17 (by decide)
theorem y_ifDays_2 {M : Mem} {V : Row} (hR : RM M 1 V) (hG : Good V) {D : Nat} (h1 : 1 ≤ D) (hD : D ≤ 20) : ∃ M' : Mem, Y 19 mX5_ifDays 0 (lent 4 [.ref 0, .int (nI D), .int (nI 2)]) [] M (some (.int (needsV (itD V D)))) M' ∧ ∀ c, c < 11 ∨ (20 < c ∧ c < 80) ∨ 83 < c → M' c = M c := by
  have hV := hG.1
  have hcp := y_copyFrom (M := M) mk11 mk1
  have hR2 := RM_cf (o := 11) hR (WF_n hV).1 (by omega)
  have hR1 : RM (cfM M 11 1) 1 V := RM_congr (fun c a b => cf_ne (by omega)) hR
  obtain ⟨M9, s9, q9⟩ := y_id_loop hG hD (wh := nI 2) (r := (some (.int (needsV (itD V D))))) (Q := fun M' => ∀ c, c < 11 ∨ (20 < c ∧ c < 80) ∨ 83 < c → M' c = M c) D 0 (cfM M 11 1) (by omega) hR1 hR2 (fun M9 a b c => by
    refine ⟨M9, ?_, fun x hx => (c x hx).trans (cf_ne (by omega))⟩
    have hW := WF_itD hG D
    skip
    refine x_iload_n dX5_ifDays_63 rfl ?_
    refine x_lookup (off := 60) 124 dX5_ifDays_64 (by decide) (by decide) (by decide) ?_
    refine x_aload_n dX5_ifDays_124 rfl ?_
    refine y_getR fkX5_16 dX5_ifDays_125 (by decide) rfl rfl ?_
    refine y_callV0 okX2_needs lkX5_213 dX5_ifDays_128 (by decide) rfl (((y_needs mk11 b hW).more (d' := 18) (by omega))) (by omega) (Nat.le_of_ble_eq_true rfl) rfl rfl (cat8 rfl) ?_
    exact y_ret dX5_ifDays_131 rfl (rfl) (rfl) (rfl))
  refine ⟨M9, ?_, q9⟩
  have hlo : ¬ nI D < 1 := nI_nlt (a := D) (b := 1) h1 (by omega)
  have hhi : nI D ≤ 20 := nI_le (a := D) (b := 20) hD (by decide)
  skip
  refine x_iload_n dX5_ifDays_0 rfl ?_
  refine x_iconstv (v := 1) dX5_ifDays_1 (by decide) ?_
  refine x_icmp_lt 20 dX5_ifDays_2 (by decide) (fun c_2 => ?_) (fun c_2 => ?_)
  · exact absurd c_2 hlo
  · refine x_iload_n dX5_ifDays_5 rfl ?_
    refine x_bipushv (v := 20) dX5_ifDays_6 (by decide) ?_
    refine x_icmp_gt 20 dX5_ifDays_8 (by decide) (fun c_8 => ?_) (fun c_8 => ?_)
    · exact absurd hhi (Int32.not_le.mpr (by simpa using c_8))
    · refine x_iload_n dX5_ifDays_11 rfl ?_
      refine x_if_lt 20 dX5_ifDays_12 (by decide) (fun c_12 => ?_) (fun c_12 => ?_)
      · exact absurd c_12 (by decide)
      · refine x_iload_n dX5_ifDays_15 rfl ?_
        refine x_iconstv (v := 2) dX5_ifDays_16 (by decide) ?_
        refine x_icmp_le 22 dX5_ifDays_17 (by decide) (fun c_17 => ?_) (fun c_17 => ?_)
        · refine x_aload_n dX5_ifDays_22 rfl ?_
          refine y_getR fkX5_16 dX5_ifDays_23 (by decide) rfl rfl ?_
          refine x_aload_n dX5_ifDays_26 rfl ?_
          refine y_getR fkX5_10 dX5_ifDays_27 (by decide) rfl rfl ?_
          refine y_callV (as := [_]) okX2_copyFrom lkX5_243 dX5_ifDays_30 rfl (by decide) rfl ((hcp.more (d' := 18) (by omega))) (by omega) rfl (by simp [Value.category]) (Nat.le_of_ble_eq_true rfl) rfl rfl (cat8 rfl) ?_
          refine x_iconstv (v := 0) dX5_ifDays_33 (by decide) ?_
          refine x_istore_n dX5_ifDays_34 (by decide) rfl ?_
          exact s9
        · exact absurd c_17 (by decide)
theorem y_ifDays0 {M : Mem} {d w : Int32} (hx : ¬ ((1 ≤ d ∧ d ≤ 20) ∧ (0 ≤ w ∧ w ≤ 2))) : Y 19 mX5_ifDays 0 (lent 4 [.ref 0, .int d, .int w]) [] M (some (.int (-1))) M := by
  skip
  refine x_iload_n dX5_ifDays_0 rfl ?_
  refine x_iconstv (v := 1) dX5_ifDays_1 (by decide) ?_
  refine x_icmp_lt 20 dX5_ifDays_2 (by decide) (fun c_2 => ?_) (fun c_2 => ?_)
  · refine x_iconstv (v := -1) dX5_ifDays_20 (by decide) ?_
    exact y_ret dX5_ifDays_21 rfl (rfl) (rfl) (rfl)
  · refine x_iload_n dX5_ifDays_5 rfl ?_
    refine x_bipushv (v := 20) dX5_ifDays_6 (by decide) ?_
    refine x_icmp_gt 20 dX5_ifDays_8 (by decide) (fun c_8 => ?_) (fun c_8 => ?_)
    · refine x_iconstv (v := -1) dX5_ifDays_20 (by decide) ?_
      exact y_ret dX5_ifDays_21 rfl (rfl) (rfl) (rfl)
    · refine x_iload_n dX5_ifDays_11 rfl ?_
      refine x_if_lt 20 dX5_ifDays_12 (by decide) (fun c_12 => ?_) (fun c_12 => ?_)
      · refine x_iconstv (v := -1) dX5_ifDays_20 (by decide) ?_
        exact y_ret dX5_ifDays_21 rfl (rfl) (rfl) (rfl)
      · refine x_iload_n dX5_ifDays_15 rfl ?_
        refine x_iconstv (v := 2) dX5_ifDays_16 (by decide) ?_
        refine x_icmp_le 22 dX5_ifDays_17 (by decide) (fun c_17 => ?_) (fun c_17 => ?_)
        · exact absurd ⟨⟨Int32.not_lt.mp c_2, Int32.not_lt.mp c_8⟩, Int32.not_lt.mp c_12, c_17⟩ hx
        · refine x_iconstv (v := -1) dX5_ifDays_20 (by decide) ?_
          exact y_ret dX5_ifDays_21 rfl (rfl) (rfl) (rfl)
theorem r_id_loop {V : Row} (hG : Good V) {D : Nat} (hD : D ≤ 20) {wh me th : Int32} {r : Option Value} {Q : Mem → Prop} : ∀ (k i : Nat) (M : Mem) (l6 l7 : Option Value), i + k = D → M 85 = itD V i → (∀ (M9 : Mem) (l6 l7 : Option Value), M9 85 = itD V D → (∀ c, c ≠ 84 → c ≠ 85 → c < 90 → M9 c = M c) → (∀ i, i ≠ 11 → M9 84 i = M 84 i) → ∃ M' : Mem, Y 7 mX6_ifDays 67 [some (.ref 84), some (.int (nI D)), some (.int wh), some (.int me), some (.int th), some (.int (nI D)), l6, l7] [] M9 r M' ∧ Q M') → ∃ M' : Mem, Y 7 mX6_ifDays 43 [some (.ref 84), some (.int (nI D)), some (.int wh), some (.int me), some (.int th), some (.int (nI i)), l6, l7] [] M r M' ∧ Q M' := by
  intro k
  induction k with
  | zero =>
    intro i M l6 l7 hi hT hk
    have hiD : i = D := by omega
    subst hiD
    obtain ⟨M9, s9, q9⟩ := hk M l6 l7 hT (fun _ _ _ _ => rfl) (fun _ _ => rfl)
    refine ⟨M9, ?_, q9⟩
    skip
    refine x_iload dX6_ifDays_43 rfl ?_
    refine x_iload_n dX6_ifDays_45 rfl ?_
    refine x_icmp_ge 67 dX6_ifDays_46 (by decide) (fun c_46 => ?_) (fun c_46 => ?_)
    · exact s9
    · exact absurd (Int32.le_refl _) c_46
  | succ k ih =>
    intro i M l6 l7 hi hT hk
    have hlt := nI_ge (a := i) (b := D) (by omega) (by omega)
    obtain ⟨M1, s1, p1, p2, p3⟩ := r_calls (M := M) (by rw [hT]; exact WF_itD hG i)
    rw [hT] at p1 s1
    have s2 := r_passes (M := M1) (by rw [p1]; exact Good_callW (Good_itD hG i))
    rw [p1] at s2
    obtain ⟨M9, s9, q9⟩ := ih (i + 1) (setR M1 85 (passV (callW (itD V i)))) (some (.int (mstV (itD V i) (cirN (itD V i))))) (some (.int (thrV (callW (itD V i))))) (by omega) row_at (fun M9 l6 l7 a b c => hk M9 l6 l7 a (fun x h1 h2 h3 => by rw [b x h1 h2 h3, row_ne h2, p3 x h1 h2 (by omega) (by omega) (by omega) (by omega) (by omega)]) (fun i h => by rw [c i h, row_ne (by decide), p2 i h]))
    refine ⟨M9, ?_, q9⟩
    skip
    refine x_iload dX6_ifDays_43 rfl ?_
    refine x_iload_n dX6_ifDays_45 rfl ?_
    refine x_icmp_ge 67 dX6_ifDays_46 (by decide) (fun c_46 => ?_) (fun c_46 => ?_)
    · exact absurd c_46 hlt
    · refine x_aload_n dX6_ifDays_49 rfl ?_
      refine y_callV0 okX6_calls lkX6_123 dX6_ifDays_50 (by decide) rfl (s1) (by omega) (Nat.le_of_ble_eq_true rfl) rfl rfl (cat8 rfl) ?_
      refine x_istore dX6_ifDays_53 (by decide) rfl ?_
      refine x_aload_n dX6_ifDays_55 rfl ?_
      refine y_callV0 okX6_passes lkX6_127 dX6_ifDays_56 (by decide) rfl ((s2.more (d' := 6) (by omega))) (by omega) (Nat.le_of_ble_eq_true rfl) rfl rfl (cat8 rfl) ?_
      refine x_istore dX6_ifDays_59 (by decide) rfl ?_
      refine x_iincv (v := 1) dX6_ifDays_61 rfl (by decide) rfl (by decide) ?_
      refine x_goto 43 dX6_ifDays_64 (by decide) ?_
      rw [nI_1]
      exact s9
theorem r_ifDays_0 {M : Mem} (hG : Good (M 85)) {D : Nat} (h1 : 1 ≤ D) (hD : D ≤ 20) : ∃ M' : Mem, Y 7 mX6_ifDays 0 (lent 8 [.ref 84, .int (nI D), .int (nI 0)]) [] M (some (.int (itD (M 85) D 2 - M 85 2))) M' ∧ (∀ j, j < 57 → M' 85 j = M 85 j) ∧ (∀ c, c ≠ 84 → c ≠ 85 → c ≠ 86 → c < 90 → M' c = M c) ∧ ∀ i, i ≠ 11 → M' 84 i = M 84 i := by
  have hV := hG.1
  have hj := r_in (M := M) (v := nI D) (a := 1) (b := 20)
  rw [in_bits.mpr (show (1 : Int32) ≤ nI D ∧ nI D ≤ 20 from ⟨nI_le (a := 1) (b := D) h1 (by omega), nI_le (a := D) (b := 20) hD (by decide)⟩)] at hj
  have hj2 := r_in (M := M) (v := nI 0) (a := 0) (b := 2)
  rw [show (decide ((0 : Int32) ≤ nI 0) && decide (nI 0 ≤ 2)) = true from by decide] at hj2
  have e85 : setR M 86 (rowN (M 85) 57 (M 86)) 85 = M 85 := row_ne (by decide)
  obtain ⟨M9, s9, q9⟩ := r_id_loop hG hD (wh := nI 0) (me := M 85 2) (th := M 85 3) (r := (some (.int (itD (M 85) D 2 - M 85 2)))) (Q := fun M' => (∀ j, j < 57 → M' 85 j = M 85 j) ∧ (∀ c, c ≠ 84 → c ≠ 85 → c ≠ 86 → c < 90 → M' c = M c) ∧ ∀ i, i ≠ 11 → M' 84 i = M 84 i) D 0 (setR M 86 (rowN (M 85) 57 (M 86))) none none (by omega) e85 (fun N l6 l7 a b c => by
    have hW : WF (N 85) := by rw [a]; exact WF_itD hG D
    have s8 := r_putBack (M := N)
    have e86 : N 86 = rowN (M 85) 57 (M 86) := by rw [b 86 (by decide) (by decide) (by decide), row_at]
    have hn := r_needs hW
    rw [a] at hn
    refine ⟨setR N 85 (rowN (N 86) 57 (N 85)), ?_, fun j hj => ?_, fun x h1 h2 h3 h4 => by rw [row_ne h2, b x h1 h2 h4, row_ne h3], fun i h => by rw [row_ne (by decide), c i h, row_ne (by decide)]⟩
    rotate_left
    · rw [row_at, e86, rowN_at, if_pos hj, rowN_at, if_pos hj]
    skip
    refine x_iload_n dX6_ifDays_67 rfl ?_
    refine x_if_ne 82 dX6_ifDays_68 (by decide) (fun c_68 => ?_) (fun c_68 => ?_)
    · exact absurd c_68 (by decide)
    · refine x_aload_n dX6_ifDays_71 rfl ?_
      refine y_getR fkX6_7 dX6_ifDays_72 (by decide) rfl rfl ?_
      refine x_iconstv (v := 2) dX6_ifDays_75 (by decide) ?_
      refine y_ialdn (j := 2) dX6_ifDays_76 (by decide) rfl (by decide) (by decide) ?_
      rw [a]
      refine x_iload_n dX6_ifDays_77 rfl ?_
      refine x_isub dX6_ifDays_78 ?_
      refine x_goto 103 dX6_ifDays_79 (by decide) ?_
      refine x_istore dX6_ifDays_103 (by decide) rfl ?_
      refine x_aload_n dX6_ifDays_105 rfl ?_
      refine y_callV0 okX6_putBack lkX6_181 dX6_ifDays_106 (by decide) rfl ((s8.more (d' := 6) (by omega))) (by omega) (Nat.le_of_ble_eq_true rfl) rfl rfl (cat8 rfl) ?_
      refine x_iload dX6_ifDays_109 rfl ?_
      exact y_ret dX6_ifDays_111 rfl (rfl) (rfl) (by first | rfl | rw [a]))
  refine ⟨M9, ?_, q9⟩
  have e1 : setR M 86 (rowN (M 85) 57 (M 86)) 85 2 = M 85 2 := by rw [e85]
  have e2 : setR M 86 (rowN (M 85) 57 (M 86)) 85 3 = M 85 3 := by rw [e85]
  skip
  refine x_iload_n dX6_ifDays_0 rfl ?_
  refine x_iconstv (v := 1) dX6_ifDays_1 (by decide) ?_
  refine x_bipushv (v := 20) dX6_ifDays_2 (by decide) ?_
  refine y_callS (as := [_, _, _]) okX6_in lkX6_51 dX6_ifDays_4 rfl ((hj.more (d' := 6) (by omega))) (by omega) rfl (by simp [Value.category]) (Nat.le_of_ble_eq_true rfl) (cat8 rfl) ?_
  refine x_if_eq 19 dX6_ifDays_7 (by decide) (fun c_7 => ?_) (fun c_7 => ?_)
  · exact absurd c_7 (by decide)
  · refine x_iload_n dX6_ifDays_10 rfl ?_
    refine x_iconstv (v := 0) dX6_ifDays_11 (by decide) ?_
    refine x_iconstv (v := 2) dX6_ifDays_12 (by decide) ?_
    refine y_callS (as := [_, _, _]) okX6_in lkX6_51 dX6_ifDays_13 rfl ((hj2.more (d' := 6) (by omega))) (by omega) rfl (by simp [Value.category]) (Nat.le_of_ble_eq_true rfl) (cat8 rfl) ?_
    refine x_if_ne 21 dX6_ifDays_16 (by decide) (fun c_16 => ?_) (fun c_16 => ?_)
    · refine x_aload_n dX6_ifDays_21 rfl ?_
      refine y_callV0 okX6_putAside lkX6_178 dX6_ifDays_22 (by decide) rfl ((r_putAside.more (d' := 6) (by omega))) (by omega) (Nat.le_of_ble_eq_true rfl) rfl rfl (cat8 rfl) ?_
      refine x_aload_n dX6_ifDays_25 rfl ?_
      refine y_getR fkX6_7 dX6_ifDays_26 (by decide) rfl rfl ?_
      refine x_iconstv (v := 2) dX6_ifDays_29 (by decide) ?_
      refine y_ialdn (j := 2) dX6_ifDays_30 (by decide) rfl (by decide) (by decide) ?_
      rw [e1]
      refine x_istore_n dX6_ifDays_31 (by decide) rfl ?_
      refine x_aload_n dX6_ifDays_32 rfl ?_
      refine y_getR fkX6_7 dX6_ifDays_33 (by decide) rfl rfl ?_
      refine x_iconstv (v := 3) dX6_ifDays_36 (by decide) ?_
      
      refine y_ialdn (j := 3) dX6_ifDays_37 (by decide) rfl (by decide) (by decide) ?_
      rw [e2]
      refine x_istore dX6_ifDays_38 (by decide) rfl ?_
      refine x_iconstv (v := 0) dX6_ifDays_40 (by decide) ?_
      refine x_istore dX6_ifDays_41 (by decide) rfl ?_
      exact s9
    · exact absurd c_16 (by decide)
theorem r_ifDays_1 {M : Mem} (hG : Good (M 85)) {D : Nat} (h1 : 1 ≤ D) (hD : D ≤ 20) : ∃ M' : Mem, Y 7 mX6_ifDays 0 (lent 8 [.ref 84, .int (nI D), .int (nI 1)]) [] M (some (.int (itD (M 85) D 3 - M 85 3))) M' ∧ (∀ j, j < 57 → M' 85 j = M 85 j) ∧ (∀ c, c ≠ 84 → c ≠ 85 → c ≠ 86 → c < 90 → M' c = M c) ∧ ∀ i, i ≠ 11 → M' 84 i = M 84 i := by
  have hV := hG.1
  have hj := r_in (M := M) (v := nI D) (a := 1) (b := 20)
  rw [in_bits.mpr (show (1 : Int32) ≤ nI D ∧ nI D ≤ 20 from ⟨nI_le (a := 1) (b := D) h1 (by omega), nI_le (a := D) (b := 20) hD (by decide)⟩)] at hj
  have hj2 := r_in (M := M) (v := nI 1) (a := 0) (b := 2)
  rw [show (decide ((0 : Int32) ≤ nI 1) && decide (nI 1 ≤ 2)) = true from by decide] at hj2
  have e85 : setR M 86 (rowN (M 85) 57 (M 86)) 85 = M 85 := row_ne (by decide)
  obtain ⟨M9, s9, q9⟩ := r_id_loop hG hD (wh := nI 1) (me := M 85 2) (th := M 85 3) (r := (some (.int (itD (M 85) D 3 - M 85 3)))) (Q := fun M' => (∀ j, j < 57 → M' 85 j = M 85 j) ∧ (∀ c, c ≠ 84 → c ≠ 85 → c ≠ 86 → c < 90 → M' c = M c) ∧ ∀ i, i ≠ 11 → M' 84 i = M 84 i) D 0 (setR M 86 (rowN (M 85) 57 (M 86))) none none (by omega) e85 (fun N l6 l7 a b c => by
    have hW : WF (N 85) := by rw [a]; exact WF_itD hG D
    have s8 := r_putBack (M := N)
    have e86 : N 86 = rowN (M 85) 57 (M 86) := by rw [b 86 (by decide) (by decide) (by decide), row_at]
    have hn := r_needs hW
    rw [a] at hn
    refine ⟨setR N 85 (rowN (N 86) 57 (N 85)), ?_, fun j hj => ?_, fun x h1 h2 h3 h4 => by rw [row_ne h2, b x h1 h2 h4, row_ne h3], fun i h => by rw [row_ne (by decide), c i h, row_ne (by decide)]⟩
    rotate_left
    · rw [row_at, e86, rowN_at, if_pos hj, rowN_at, if_pos hj]
    skip
    refine x_iload_n dX6_ifDays_67 rfl ?_
    refine x_if_ne 82 dX6_ifDays_68 (by decide) (fun c_68 => ?_) (fun c_68 => ?_)
    · refine x_iload_n dX6_ifDays_82 rfl ?_
      refine x_iconstv (v := 1) dX6_ifDays_83 (by decide) ?_
      refine x_icmp_ne 99 dX6_ifDays_84 (by decide) (fun c_84 => ?_) (fun c_84 => ?_)
      · exact absurd c_84 (by decide)
      · refine x_aload_n dX6_ifDays_87 rfl ?_
        refine y_getR fkX6_7 dX6_ifDays_88 (by decide) rfl rfl ?_
        refine x_iconstv (v := 3) dX6_ifDays_91 (by decide) ?_
        refine y_ialdn (j := 3) dX6_ifDays_92 (by decide) rfl (by decide) (by decide) ?_
        rw [a]
        refine x_iload dX6_ifDays_93 rfl ?_
        refine x_isub dX6_ifDays_95 ?_
        refine x_goto 103 dX6_ifDays_96 (by decide) ?_
        refine x_istore dX6_ifDays_103 (by decide) rfl ?_
        refine x_aload_n dX6_ifDays_105 rfl ?_
        refine y_callV0 okX6_putBack lkX6_181 dX6_ifDays_106 (by decide) rfl ((s8.more (d' := 6) (by omega))) (by omega) (Nat.le_of_ble_eq_true rfl) rfl rfl (cat8 rfl) ?_
        refine x_iload dX6_ifDays_109 rfl ?_
        exact y_ret dX6_ifDays_111 rfl (rfl) (rfl) (by first | rfl | rw [a])
    · exact absurd c_68 (by decide))
  refine ⟨M9, ?_, q9⟩
  have e1 : setR M 86 (rowN (M 85) 57 (M 86)) 85 2 = M 85 2 := by rw [e85]
  have e2 : setR M 86 (rowN (M 85) 57 (M 86)) 85 3 = M 85 3 := by rw [e85]
  skip
  refine x_iload_n dX6_ifDays_0 rfl ?_
  refine x_iconstv (v := 1) dX6_ifDays_1 (by decide) ?_
  refine x_bipushv (v := 20) dX6_ifDays_2 (by decide) ?_
  refine y_callS (as := [_, _, _]) okX6_in lkX6_51 dX6_ifDays_4 rfl ((hj.more (d' := 6) (by omega))) (by omega) rfl (by simp [Value.category]) (Nat.le_of_ble_eq_true rfl) (cat8 rfl) ?_
  refine x_if_eq 19 dX6_ifDays_7 (by decide) (fun c_7 => ?_) (fun c_7 => ?_)
  · exact absurd c_7 (by decide)
  · refine x_iload_n dX6_ifDays_10 rfl ?_
    refine x_iconstv (v := 0) dX6_ifDays_11 (by decide) ?_
    refine x_iconstv (v := 2) dX6_ifDays_12 (by decide) ?_
    refine y_callS (as := [_, _, _]) okX6_in lkX6_51 dX6_ifDays_13 rfl ((hj2.more (d' := 6) (by omega))) (by omega) rfl (by simp [Value.category]) (Nat.le_of_ble_eq_true rfl) (cat8 rfl) ?_
    refine x_if_ne 21 dX6_ifDays_16 (by decide) (fun c_16 => ?_) (fun c_16 => ?_)
    · refine x_aload_n dX6_ifDays_21 rfl ?_
      refine y_callV0 okX6_putAside lkX6_178 dX6_ifDays_22 (by decide) rfl ((r_putAside.more (d' := 6) (by omega))) (by omega) (Nat.le_of_ble_eq_true rfl) rfl rfl (cat8 rfl) ?_
      refine x_aload_n dX6_ifDays_25 rfl ?_
      refine y_getR fkX6_7 dX6_ifDays_26 (by decide) rfl rfl ?_
      refine x_iconstv (v := 2) dX6_ifDays_29 (by decide) ?_
      refine y_ialdn (j := 2) dX6_ifDays_30 (by decide) rfl (by decide) (by decide) ?_
      rw [e1]
      refine x_istore_n dX6_ifDays_31 (by decide) rfl ?_
      refine x_aload_n dX6_ifDays_32 rfl ?_
      refine y_getR fkX6_7 dX6_ifDays_33 (by decide) rfl rfl ?_
      refine x_iconstv (v := 3) dX6_ifDays_36 (by decide) ?_
      
      refine y_ialdn (j := 3) dX6_ifDays_37 (by decide) rfl (by decide) (by decide) ?_
      rw [e2]
      refine x_istore dX6_ifDays_38 (by decide) rfl ?_
      refine x_iconstv (v := 0) dX6_ifDays_40 (by decide) ?_
      refine x_istore dX6_ifDays_41 (by decide) rfl ?_
      exact s9
    · exact absurd c_16 (by decide)
theorem r_ifDays_2 {M : Mem} (hG : Good (M 85)) {D : Nat} (h1 : 1 ≤ D) (hD : D ≤ 20) : ∃ M' : Mem, Y 7 mX6_ifDays 0 (lent 8 [.ref 84, .int (nI D), .int (nI 2)]) [] M (some (.int (needsV (itD (M 85) D)))) M' ∧ (∀ j, j < 57 → M' 85 j = M 85 j) ∧ (∀ c, c ≠ 84 → c ≠ 85 → c ≠ 86 → c < 90 → M' c = M c) ∧ ∀ i, i ≠ 11 → M' 84 i = M 84 i := by
  have hV := hG.1
  have hj := r_in (M := M) (v := nI D) (a := 1) (b := 20)
  rw [in_bits.mpr (show (1 : Int32) ≤ nI D ∧ nI D ≤ 20 from ⟨nI_le (a := 1) (b := D) h1 (by omega), nI_le (a := D) (b := 20) hD (by decide)⟩)] at hj
  have hj2 := r_in (M := M) (v := nI 2) (a := 0) (b := 2)
  rw [show (decide ((0 : Int32) ≤ nI 2) && decide (nI 2 ≤ 2)) = true from by decide] at hj2
  have e85 : setR M 86 (rowN (M 85) 57 (M 86)) 85 = M 85 := row_ne (by decide)
  obtain ⟨M9, s9, q9⟩ := r_id_loop hG hD (wh := nI 2) (me := M 85 2) (th := M 85 3) (r := (some (.int (needsV (itD (M 85) D))))) (Q := fun M' => (∀ j, j < 57 → M' 85 j = M 85 j) ∧ (∀ c, c ≠ 84 → c ≠ 85 → c ≠ 86 → c < 90 → M' c = M c) ∧ ∀ i, i ≠ 11 → M' 84 i = M 84 i) D 0 (setR M 86 (rowN (M 85) 57 (M 86))) none none (by omega) e85 (fun N l6 l7 a b c => by
    have hW : WF (N 85) := by rw [a]; exact WF_itD hG D
    have s8 := r_putBack (M := N)
    have e86 : N 86 = rowN (M 85) 57 (M 86) := by rw [b 86 (by decide) (by decide) (by decide), row_at]
    have hn := r_needs hW
    rw [a] at hn
    refine ⟨setR N 85 (rowN (N 86) 57 (N 85)), ?_, fun j hj => ?_, fun x h1 h2 h3 h4 => by rw [row_ne h2, b x h1 h2 h4, row_ne h3], fun i h => by rw [row_ne (by decide), c i h, row_ne (by decide)]⟩
    rotate_left
    · rw [row_at, e86, rowN_at, if_pos hj, rowN_at, if_pos hj]
    skip
    refine x_iload_n dX6_ifDays_67 rfl ?_
    refine x_if_ne 82 dX6_ifDays_68 (by decide) (fun c_68 => ?_) (fun c_68 => ?_)
    · refine x_iload_n dX6_ifDays_82 rfl ?_
      refine x_iconstv (v := 1) dX6_ifDays_83 (by decide) ?_
      refine x_icmp_ne 99 dX6_ifDays_84 (by decide) (fun c_84 => ?_) (fun c_84 => ?_)
      · refine x_aload_n dX6_ifDays_99 rfl ?_
        refine y_callV0 okX6_needs lkX6_169 dX6_ifDays_100 (by decide) rfl ((hn.more (d' := 6) (by omega))) (by omega) (Nat.le_of_ble_eq_true rfl) rfl rfl (cat8 rfl) ?_
        refine x_istore dX6_ifDays_103 (by decide) rfl ?_
        refine x_aload_n dX6_ifDays_105 rfl ?_
        refine y_callV0 okX6_putBack lkX6_181 dX6_ifDays_106 (by decide) rfl ((s8.more (d' := 6) (by omega))) (by omega) (Nat.le_of_ble_eq_true rfl) rfl rfl (cat8 rfl) ?_
        refine x_iload dX6_ifDays_109 rfl ?_
        exact y_ret dX6_ifDays_111 rfl (rfl) (rfl) (by first | rfl | rw [a])
      · exact absurd c_84 (by decide)
    · exact absurd c_68 (by decide))
  refine ⟨M9, ?_, q9⟩
  have e1 : setR M 86 (rowN (M 85) 57 (M 86)) 85 2 = M 85 2 := by rw [e85]
  have e2 : setR M 86 (rowN (M 85) 57 (M 86)) 85 3 = M 85 3 := by rw [e85]
  skip
  refine x_iload_n dX6_ifDays_0 rfl ?_
  refine x_iconstv (v := 1) dX6_ifDays_1 (by decide) ?_
  refine x_bipushv (v := 20) dX6_ifDays_2 (by decide) ?_
  refine y_callS (as := [_, _, _]) okX6_in lkX6_51 dX6_ifDays_4 rfl ((hj.more (d' := 6) (by omega))) (by omega) rfl (by simp [Value.category]) (Nat.le_of_ble_eq_true rfl) (cat8 rfl) ?_
  refine x_if_eq 19 dX6_ifDays_7 (by decide) (fun c_7 => ?_) (fun c_7 => ?_)
  · exact absurd c_7 (by decide)
  · refine x_iload_n dX6_ifDays_10 rfl ?_
    refine x_iconstv (v := 0) dX6_ifDays_11 (by decide) ?_
    refine x_iconstv (v := 2) dX6_ifDays_12 (by decide) ?_
    refine y_callS (as := [_, _, _]) okX6_in lkX6_51 dX6_ifDays_13 rfl ((hj2.more (d' := 6) (by omega))) (by omega) rfl (by simp [Value.category]) (Nat.le_of_ble_eq_true rfl) (cat8 rfl) ?_
    refine x_if_ne 21 dX6_ifDays_16 (by decide) (fun c_16 => ?_) (fun c_16 => ?_)
    · refine x_aload_n dX6_ifDays_21 rfl ?_
      refine y_callV0 okX6_putAside lkX6_178 dX6_ifDays_22 (by decide) rfl ((r_putAside.more (d' := 6) (by omega))) (by omega) (Nat.le_of_ble_eq_true rfl) rfl rfl (cat8 rfl) ?_
      refine x_aload_n dX6_ifDays_25 rfl ?_
      refine y_getR fkX6_7 dX6_ifDays_26 (by decide) rfl rfl ?_
      refine x_iconstv (v := 2) dX6_ifDays_29 (by decide) ?_
      refine y_ialdn (j := 2) dX6_ifDays_30 (by decide) rfl (by decide) (by decide) ?_
      rw [e1]
      refine x_istore_n dX6_ifDays_31 (by decide) rfl ?_
      refine x_aload_n dX6_ifDays_32 rfl ?_
      refine y_getR fkX6_7 dX6_ifDays_33 (by decide) rfl rfl ?_
      refine x_iconstv (v := 3) dX6_ifDays_36 (by decide) ?_
      
      refine y_ialdn (j := 3) dX6_ifDays_37 (by decide) rfl (by decide) (by decide) ?_
      rw [e2]
      refine x_istore dX6_ifDays_38 (by decide) rfl ?_
      refine x_iconstv (v := 0) dX6_ifDays_40 (by decide) ?_
      refine x_istore dX6_ifDays_41 (by decide) rfl ?_
      exact s9
    · exact absurd c_16 (by decide)
theorem r_ifDays0 {M : Mem} {d w : Int32} (hx : ¬ ((1 ≤ d ∧ d ≤ 20) ∧ (0 ≤ w ∧ w ≤ 2))) : Y 7 mX6_ifDays 0 (lent 8 [.ref 84, .int d, .int w]) [] M (some (.int (-1))) M := by
  skip
  refine x_iload_n dX6_ifDays_0 rfl ?_
  refine x_iconstv (v := 1) dX6_ifDays_1 (by decide) ?_
  refine x_bipushv (v := 20) dX6_ifDays_2 (by decide) ?_
  refine y_callS (as := [_, _, _]) okX6_in lkX6_51 dX6_ifDays_4 rfl ((r_in.more (d' := 6) (by omega))) (by omega) rfl (by simp [Value.category]) (Nat.le_of_ble_eq_true rfl) (cat8 rfl) ?_
  refine x_if_eq 19 dX6_ifDays_7 (by decide) (fun c_7 => ?_) (fun c_7 => ?_)
  · refine x_iconstv (v := -1) dX6_ifDays_19 (by decide) ?_
    exact y_ret dX6_ifDays_20 rfl (rfl) (rfl) (rfl)
  · refine x_iload_n dX6_ifDays_10 rfl ?_
    refine x_iconstv (v := 0) dX6_ifDays_11 (by decide) ?_
    refine x_iconstv (v := 2) dX6_ifDays_12 (by decide) ?_
    refine y_callS (as := [_, _, _]) okX6_in lkX6_51 dX6_ifDays_13 rfl ((r_in.more (d' := 6) (by omega))) (by omega) rfl (by simp [Value.category]) (Nat.le_of_ble_eq_true rfl) (cat8 rfl) ?_
    refine x_if_ne 21 dX6_ifDays_16 (by decide) (fun c_16 => ?_) (fun c_16 => ?_)
    · exact absurd ⟨in_bits.mp (b2i_nz c_7), in_bits.mp (b2i_nz c_16)⟩ hx
    · refine x_iconstv (v := -1) dX6_ifDays_19 (by decide) ?_
      exact y_ret dX6_ifDays_20 rfl (rfl) (rfl) (rfl)
