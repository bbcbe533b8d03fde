theorem y_why_0n {M : Mem} (h9 : M 0 9 = -1) : Y 0 mX5_why 0 (lent 2 [.ref 0, .int (nI 0)]) [] M (some (.int (-4))) M := by
  skip
  refine x_iload_n dX5_why_0 rfl ?_
  refine x_if_eq 11 dX5_why_1 (by decide) (fun c_1 => ?_) (fun c_1 => ?_)
  · refine x_aload_n dX5_why_11 rfl ?_
    refine y_getI fkX5_50 dX5_why_12 (by decide) rfl rfl ?_
    rw [h9]
    refine x_iconstv (v := -1) dX5_why_15 (by decide) ?_
    refine x_icmp_ne 22 dX5_why_16 (by decide) (fun c_16 => ?_) (fun c_16 => ?_)
    · exact absurd rfl c_16
    · refine x_bipushv (v := -4) dX5_why_19 (by decide) ?_
      exact y_ret dX5_why_21 rfl (rfl) (rfl) (rfl)
  · exact absurd c_1 (by decide)
theorem y_why_0s {M : Mem} (h9 : ¬ M 0 9 = -1) : Y 0 mX5_why 0 (lent 2 [.ref 0, .int (nI 0)]) [] M (some (.int (M 0 8))) M := by
  skip
  refine x_iload_n dX5_why_0 rfl ?_
  refine x_if_eq 11 dX5_why_1 (by decide) (fun c_1 => ?_) (fun c_1 => ?_)
  · refine x_aload_n dX5_why_11 rfl ?_
    refine y_getI fkX5_50 dX5_why_12 (by decide) rfl rfl ?_
    refine x_iconstv (v := -1) dX5_why_15 (by decide) ?_
    refine x_icmp_ne 22 dX5_why_16 (by decide) (fun c_16 => ?_) (fun c_16 => ?_)
    · refine x_iload_n dX5_why_22 rfl ?_
      refine x_if_ne 33 dX5_why_23 (by decide) (fun c_23 => ?_) (fun c_23 => ?_)
      · exact absurd c_23 (by decide)
      · refine x_aload_n dX5_why_26 rfl ?_
        refine y_getI fkX5_147 dX5_why_27 (by decide) rfl rfl ?_
        refine x_goto 37 dX5_why_30 (by decide) ?_
        exact y_ret dX5_why_37 rfl (rfl) (rfl) (rfl)
    · exact absurd c_16 h9
  · exact absurd c_1 (by decide)
theorem r_why_0 {M : Mem} : Y 0 mX6_why 0 (lent 2 [.ref 84, .int (nI 0)]) [] M (some (.int (M 84 8))) M := by
  skip
  refine x_iload_n dX6_why_0 rfl ?_
  refine x_if_ne 11 dX6_why_1 (by decide) (fun c_1 => ?_) (fun c_1 => ?_)
  · exact absurd c_1 (by decide)
  · refine x_aload_n dX6_why_4 rfl ?_
    refine y_getI fkX6_25 dX6_why_5 (by decide) rfl rfl ?_
    refine x_goto 24 dX6_why_8 (by decide) ?_
    exact y_ret dX6_why_24 rfl (rfl) (rfl) (rfl)
theorem y_why_1n {M : Mem} (h9 : M 0 9 = -1) : Y 0 mX5_why 0 (lent 2 [.ref 0, .int (nI 1)]) [] M (some (.int (-4))) M := by
  skip
  refine x_iload_n dX5_why_0 rfl ?_
  refine x_if_eq 11 dX5_why_1 (by decide) (fun c_1 => ?_) (fun c_1 => ?_)
  · exact absurd c_1 (by decide)
  · refine x_iload_n dX5_why_4 rfl ?_
    refine x_iconstv (v := 1) dX5_why_5 (by decide) ?_
    refine x_icmp_eq 11 dX5_why_6 (by decide) (fun c_6 => ?_) (fun c_6 => ?_)
    · refine x_aload_n dX5_why_11 rfl ?_
      refine y_getI fkX5_50 dX5_why_12 (by decide) rfl rfl ?_
      rw [h9]
      refine x_iconstv (v := -1) dX5_why_15 (by decide) ?_
      refine x_icmp_ne 22 dX5_why_16 (by decide) (fun c_16 => ?_) (fun c_16 => ?_)
      · exact absurd rfl c_16
      · refine x_bipushv (v := -4) dX5_why_19 (by decide) ?_
        exact y_ret dX5_why_21 rfl (rfl) (rfl) (rfl)
    · exact absurd c_6 (by decide)
theorem y_why_1s {M : Mem} (h9 : ¬ M 0 9 = -1) : Y 0 mX5_why 0 (lent 2 [.ref 0, .int (nI 1)]) [] M (some (.int (M 0 9))) M := by
  skip
  refine x_iload_n dX5_why_0 rfl ?_
  refine x_if_eq 11 dX5_why_1 (by decide) (fun c_1 => ?_) (fun c_1 => ?_)
  · exact absurd c_1 (by decide)
  · refine x_iload_n dX5_why_4 rfl ?_
    refine x_iconstv (v := 1) dX5_why_5 (by decide) ?_
    refine x_icmp_eq 11 dX5_why_6 (by decide) (fun c_6 => ?_) (fun c_6 => ?_)
    · refine x_aload_n dX5_why_11 rfl ?_
      refine y_getI fkX5_50 dX5_why_12 (by decide) rfl rfl ?_
      refine x_iconstv (v := -1) dX5_why_15 (by decide) ?_
      refine x_icmp_ne 22 dX5_why_16 (by decide) (fun c_16 => ?_) (fun c_16 => ?_)
      · refine x_iload_n dX5_why_22 rfl ?_
        refine x_if_ne 33 dX5_why_23 (by decide) (fun c_23 => ?_) (fun c_23 => ?_)
        · refine x_aload_n dX5_why_33 rfl ?_
          refine y_getI fkX5_50 dX5_why_34 (by decide) rfl rfl ?_
          exact y_ret dX5_why_37 rfl (rfl) (rfl) (rfl)
        · exact absurd c_23 (by decide)
      · exact absurd c_16 h9
    · exact absurd c_6 (by decide)
theorem r_why_1 {M : Mem} : Y 0 mX6_why 0 (lent 2 [.ref 84, .int (nI 1)]) [] M (some (.int (M 84 9))) M := by
  skip
  refine x_iload_n dX6_why_0 rfl ?_
  refine x_if_ne 11 dX6_why_1 (by decide) (fun c_1 => ?_) (fun c_1 => ?_)
  · refine x_iload_n dX6_why_11 rfl ?_
    refine x_iconstv (v := 1) dX6_why_12 (by decide) ?_
    refine x_icmp_ne 23 dX6_why_13 (by decide) (fun c_13 => ?_) (fun c_13 => ?_)
    · exact absurd c_13 (by decide)
    · refine x_aload_n dX6_why_16 rfl ?_
      refine y_getI fkX6_29 dX6_why_17 (by decide) rfl rfl ?_
      refine x_goto 24 dX6_why_20 (by decide) ?_
      exact y_ret dX6_why_24 rfl (rfl) (rfl) (rfl)
  · exact absurd c_1 (by decide)
theorem y_why_d {M : Mem} {x : Int32} (h0 : ¬ x = 0) (h1 : ¬ x = 1) : Y 0 mX5_why 0 (lent 2 [.ref 0, .int x]) [] M (some (.int (-1))) M := by
  skip
  refine x_iload_n dX5_why_0 rfl ?_
  refine x_if_eq 11 dX5_why_1 (by decide) (fun c_1 => ?_) (fun c_1 => ?_)
  · exact absurd c_1 h0
  · refine x_iload_n dX5_why_4 rfl ?_
    refine x_iconstv (v := 1) dX5_why_5 (by decide) ?_
    refine x_icmp_eq 11 dX5_why_6 (by decide) (fun c_6 => ?_) (fun c_6 => ?_)
    · exact absurd c_6 h1
    · refine x_iconstv (v := -1) dX5_why_9 (by decide) ?_
      exact y_ret dX5_why_10 rfl (rfl) (rfl) (rfl)
theorem r_why_d {M : Mem} {x : Int32} (h0 : ¬ x = 0) (h1 : ¬ x = 1) : Y 0 mX6_why 0 (lent 2 [.ref 84, .int x]) [] M (some (.int (-1))) M := by
  skip
  refine x_iload_n dX6_why_0 rfl ?_
  refine x_if_ne 11 dX6_why_1 (by decide) (fun c_1 => ?_) (fun c_1 => ?_)
  · refine x_iload_n dX6_why_11 rfl ?_
    refine x_iconstv (v := 1) dX6_why_12 (by decide) ?_
    refine x_icmp_ne 23 dX6_why_13 (by decide) (fun c_13 => ?_) (fun c_13 => ?_)
    · refine x_iconstv (v := -1) dX6_why_23 (by decide) ?_
      exact y_ret dX6_why_24 rfl (rfl) (rfl) (rfl)
    · exact absurd c_13 h1
  · exact absurd c_1 h0
theorem y_fault_0 {M : Mem} {P : Row} {n : Nat} (hP : Pad P n) (hM : PadC M P n) : Y 2 mX5_fault 0 (lent 2 [.ref 0, .int (nI 0)]) [] M (some (.int (ftC P n n 0 0 48))) M := by
  skip
  refine x_iload_n dX5_fault_0 rfl ?_
  refine x_lookup (off := 27) 28 dX5_fault_1 (by decide) (by decide) (by decide) ?_
  refine x_aload_n dX5_fault_28 rfl ?_
  refine y_getR fkX5_32 dX5_fault_29 (by decide) rfl rfl ?_
  refine y_callV0 okX3_faultAsTraders lkX5_121 dX5_fault_32 (by decide) rfl (y_ft hP hM) (by omega) (Nat.le_of_ble_eq_true rfl) rfl rfl (cat8 rfl) ?_
  exact y_ret dX5_fault_35 rfl (rfl) (rfl) (rfl)
theorem y_fault_1 {M : Mem} {P : Row} {n : Nat} (hP : Pad P n) (hM : PadC M P n) : Y 2 mX5_fault 0 (lent 2 [.ref 0, .int (nI 1)]) [] M (some (.int (fdC P n n 0 0))) M := by
  skip
  refine x_iload_n dX5_fault_0 rfl ?_
  refine x_lookup (off := 35) 36 dX5_fault_1 (by decide) (by decide) (by decide) ?_
  refine x_aload_n dX5_fault_36 rfl ?_
  refine y_getR fkX5_32 dX5_fault_37 (by decide) rfl rfl ?_
  refine y_callV0 okX3_faultAsDays lkX5_124 dX5_fault_40 (by decide) rfl (y_fd hP hM) (by omega) (Nat.le_of_ble_eq_true rfl) rfl rfl (cat8 rfl) ?_
  exact y_ret dX5_fault_43 rfl (rfl) (rfl) (rfl)
theorem y_fault_d {M : Mem} {x : Int32} (h0 : ¬ x = 0) (h1 : ¬ x = 1) : Y 2 mX5_fault 0 (lent 2 [.ref 0, .int x]) [] M (some (.int (-1))) M := by
  have g0 : ¬ (0 : Int) = x.toInt := fun q => h0 (Int32.toInt_inj.mp (q.symm.trans (by decide)))
  have g1 : ¬ (1 : Int) = x.toInt := fun q => h1 (Int32.toInt_inj.mp (q.symm.trans (by decide)))
  skip
  refine x_iload_n dX5_fault_0 rfl ?_
  refine x_lookup (off := 43) 44 dX5_fault_1 (by decide) (by simp [Op.lookupswitch.offset, g0, g1]) (by decide) ?_
  refine x_iconstv (v := -1) dX5_fault_44 (by decide) ?_
  exact y_ret dX5_fault_45 rfl (rfl) (rfl) (rfl)
theorem r_fault_0 {M : Mem} {P : Row} {n : Nat} (hP : Pad P n) (hM : PadR M P n) : Y 4 mX6_fault 0 (lent 2 [.ref 84, .int (nI 0)]) [] M (some (.int ((ftR P n (n + 1) 0 0).1))) (updM M 84 16 (nI (ftR P n (n + 1) 0 0).2)) := by
  skip
  refine x_iload_n dX6_fault_0 rfl ?_
  refine x_if_ne 11 dX6_fault_1 (by decide) (fun c_1 => ?_) (fun c_1 => ?_)
  · exact absurd c_1 (by decide)
  · refine x_aload_n dX6_fault_4 rfl ?_
    refine y_callV0 okX6_faultOfTraders lkX6_142 dX6_fault_5 (by decide) rfl (r_fo hP hM) (by omega) (Nat.le_of_ble_eq_true rfl) rfl rfl (cat8 rfl) ?_
    refine x_goto 24 dX6_fault_8 (by decide) ?_
    exact y_ret dX6_fault_24 rfl (rfl) (rfl) (rfl)
theorem r_fault_1 {M : Mem} {P : Row} {n : Nat} (hP : Pad P n) (hM : PadR M P n) : Y 4 mX6_fault 0 (lent 2 [.ref 84, .int (nI 1)]) [] M (some (.int (fdR P n (n + 1) 0))) M := by
  skip
  refine x_iload_n dX6_fault_0 rfl ?_
  refine x_if_ne 11 dX6_fault_1 (by decide) (fun c_1 => ?_) (fun c_1 => ?_)
  · refine x_iload_n dX6_fault_11 rfl ?_
    refine x_iconstv (v := 1) dX6_fault_12 (by decide) ?_
    refine x_icmp_ne 23 dX6_fault_13 (by decide) (fun c_13 => ?_) (fun c_13 => ?_)
    · exact absurd c_13 (by decide)
    · refine x_aload_n dX6_fault_16 rfl ?_
      refine y_callV0 okX6_faultOfDays lkX6_145 dX6_fault_17 (by decide) rfl (((r_fd hP hM).more (d' := 3) (by omega))) (by omega) (Nat.le_of_ble_eq_true rfl) rfl rfl (cat8 rfl) ?_
      refine x_goto 24 dX6_fault_20 (by decide) ?_
      exact y_ret dX6_fault_24 rfl (rfl) (rfl) (rfl)
  · exact absurd c_1 (by decide)
theorem r_fault_d {M : Mem} {x : Int32} (h0 : ¬ x = 0) (h1 : ¬ x = 1) : Y 4 mX6_fault 0 (lent 2 [.ref 84, .int x]) [] M (some (.int (-1))) M := by
  skip
  refine x_iload_n dX6_fault_0 rfl ?_
  refine x_if_ne 11 dX6_fault_1 (by decide) (fun c_1 => ?_) (fun c_1 => ?_)
  · refine x_iload_n dX6_fault_11 rfl ?_
    refine x_iconstv (v := 1) dX6_fault_12 (by decide) ?_
    refine x_icmp_ne 23 dX6_fault_13 (by decide) (fun c_13 => ?_) (fun c_13 => ?_)
    · refine x_iconstv (v := -1) dX6_fault_23 (by decide) ?_
      exact y_ret dX6_fault_24 rfl (rfl) (rfl) (rfl)
    · exact absurd c_13 h1
  · exact absurd c_1 h0
theorem y_append1 {M : Mem} {P : Row} {n : Nat} (hP : Pad P n) (hM : PadC M P n) {x : Int32} (hx : 33 ≤ x ∧ x ≤ 126) (h60 : n < 60) : Y 1 mX5_append 0 (lent 2 [.ref 0, .int x]) [] M (some (.int (nI (n + 1)))) (updM (updM M 74 n x) 73 0 (nI (n + 1))) := by
  have hc := (code_nar hx).2.2
  have hl : ¬ nI n ≥ 60 := nI_ge (a := n) (b := 60) h60 (by decide)
  have e7 : updM (updM M 74 n x) 73 0 (nI (n + 1)) 73 0 = nI (n + 1) := by simp [updM]
  skip
  refine x_iload_n dX5_append_0 rfl ?_
  refine x_bipushv (v := 33) dX5_append_1 (by decide) ?_
  refine x_icmp_lt 12 dX5_append_3 (by decide) (fun c_3 => ?_) (fun c_3 => ?_)
  · exact absurd c_3 (Int32.not_lt.mpr hx.1)
  · refine x_iload_n dX5_append_6 rfl ?_
    refine x_bipushv (v := 126) dX5_append_7 (by decide) ?_
    refine x_icmp_le 14 dX5_append_9 (by decide) (fun c_9 => ?_) (fun c_9 => ?_)
    · refine x_aload_n dX5_append_14 rfl ?_
      refine y_getR fkX5_32 dX5_append_15 (by decide) rfl rfl ?_
      refine y_getI fkX5_114 dX5_append_18 (by decide) rfl rfl ?_
      rw [hM.1]
      refine x_bipushv (v := 60) dX5_append_21 (by decide) ?_
      refine x_icmp_lt 29 dX5_append_23 (by decide) (fun c_23 => ?_) (fun c_23 => ?_)
      · refine x_aload_n dX5_append_29 rfl ?_
        refine y_getR fkX5_32 dX5_append_30 (by decide) rfl rfl ?_
        refine x_iload_n dX5_append_33 rfl ?_
        refine x_i2c dX5_append_34 ?_
        rw [hc]
        refine y_callV (as := [_]) okX3_put lkX5_117 dX5_append_35 rfl (by decide) rfl (y_put hP hM hx h60) (by omega) rfl (by simp [Value.category]) (Nat.le_of_ble_eq_true rfl) rfl rfl (cat8 rfl) ?_
        refine x_aload_n dX5_append_38 rfl ?_
        refine y_getR fkX5_32 dX5_append_39 (by decide) rfl rfl ?_
        refine y_getI fkX5_114 dX5_append_42 (by decide) rfl rfl ?_
        exact y_ret dX5_append_45 rfl (rfl) (e7) (rfl)
      · exact absurd (nI_lt (a := n) (b := 60) h60 (by decide)) c_23
    · exact absurd hx.2 c_9
theorem y_appendL {M : Mem} {x : Int32} (hx : 33 ≤ x ∧ x ≤ 126) (h7 : M 73 0 = nI 60) : Y 1 mX5_append 0 (lent 2 [.ref 0, .int x]) [] M (some (.int (-3))) M := by
  skip
  refine x_iload_n dX5_append_0 rfl ?_
  refine x_bipushv (v := 33) dX5_append_1 (by decide) ?_
  refine x_icmp_lt 12 dX5_append_3 (by decide) (fun c_3 => ?_) (fun c_3 => ?_)
  · exact absurd c_3 (Int32.not_lt.mpr hx.1)
  · refine x_iload_n dX5_append_6 rfl ?_
    refine x_bipushv (v := 126) dX5_append_7 (by decide) ?_
    refine x_icmp_le 14 dX5_append_9 (by decide) (fun c_9 => ?_) (fun c_9 => ?_)
    · refine x_aload_n dX5_append_14 rfl ?_
      refine y_getR fkX5_32 dX5_append_15 (by decide) rfl rfl ?_
      refine y_getI fkX5_114 dX5_append_18 (by decide) rfl rfl ?_
      rw [h7]
      refine x_bipushv (v := 60) dX5_append_21 (by decide) ?_
      refine x_icmp_lt 29 dX5_append_23 (by decide) (fun c_23 => ?_) (fun c_23 => ?_)
      · exact absurd c_23 (by decide)
      · refine x_bipushv (v := -3) dX5_append_26 (by decide) ?_
        exact y_ret dX5_append_28 rfl (rfl) (rfl) (rfl)
    · exact absurd hx.2 c_9
theorem y_append0 {M : Mem} {x : Int32} (hx : ¬ (33 ≤ x ∧ x ≤ 126)) : Y 1 mX5_append 0 (lent 2 [.ref 0, .int x]) [] M (some (.int (-1))) M := by
  skip
  refine x_iload_n dX5_append_0 rfl ?_
  refine x_bipushv (v := 33) dX5_append_1 (by decide) ?_
  refine x_icmp_lt 12 dX5_append_3 (by decide) (fun c_3 => ?_) (fun c_3 => ?_)
  · refine x_iconstv (v := -1) dX5_append_12 (by decide) ?_
    exact y_ret dX5_append_13 rfl (rfl) (rfl) (rfl)
  · refine x_iload_n dX5_append_6 rfl ?_
    refine x_bipushv (v := 126) dX5_append_7 (by decide) ?_
    refine x_icmp_le 14 dX5_append_9 (by decide) (fun c_9 => ?_) (fun c_9 => ?_)
    · exact absurd ⟨Int32.not_lt.mp c_3, c_9⟩ hx
    · refine x_iconstv (v := -1) dX5_append_12 (by decide) ?_
      exact y_ret dX5_append_13 rfl (rfl) (rfl) (rfl)
theorem r_append1 {M : Mem} {n : Nat} (h7 : M 84 7 = nI n) {x : Int32} (hx : 33 ≤ x ∧ x ≤ 126) (h60 : n < 60) : Y 1 mX6_append 0 (lent 2 [.ref 84, .int x]) [] M (some (.int (nI (n + 1)))) (updM (updM M 89 n x) 84 7 (nI (n + 1))) := by
  have hj := r_in (M := M) (v := x) (a := 33) (b := 126)
  rw [in_bits.mpr hx] at hj
  have hl : ¬ nI n = 60 := fun q => absurd ((nI_eq (a := n) (b := 60) (by omega) (by decide)).mp q) (by omega)
  have e7 : updM M 89 n x 84 7 = nI n := by rw [updM_ne (by decide)]; exact h7
  have e8 : updM (updM M 89 n x) 84 7 (nI (n + 1)) 84 7 = nI (n + 1) := by simp [updM]
  skip
  refine x_iload_n dX6_append_0 rfl ?_
  refine x_bipushv (v := 33) dX6_append_1 (by decide) ?_
  refine x_bipushv (v := 126) dX6_append_3 (by decide) ?_
  refine y_callS (as := [_, _, _]) okX6_in lkX6_51 dX6_append_5 rfl (hj) (by omega) rfl (by simp [Value.category]) (Nat.le_of_ble_eq_true rfl) (cat8 rfl) ?_
  refine x_if_ne 13 dX6_append_8 (by decide) (fun c_8 => ?_) (fun c_8 => ?_)
  · refine x_aload_n dX6_append_13 rfl ?_
    refine y_getI fkX6_130 dX6_append_14 (by decide) rfl rfl ?_
    rw [h7]
    refine x_bipushv (v := 60) dX6_append_17 (by decide) ?_
    refine x_icmp_ne 25 dX6_append_19 (by decide) (fun c_19 => ?_) (fun c_19 => ?_)
    · refine x_aload_n dX6_append_25 rfl ?_
      refine y_getR fkX6_22 dX6_append_26 (by decide) rfl rfl ?_
      refine x_aload_n dX6_append_29 rfl ?_
      refine y_getI fkX6_130 dX6_append_30 (by decide) rfl rfl ?_
      rw [h7]
      refine x_iload_n dX6_append_33 rfl ?_
      refine y_iastn (j := n) dX6_append_34 (by decide) rfl (ixN (by omega)) (by omega) ?_
      refine x_aload_n dX6_append_35 rfl ?_
      refine x_dup_r dX6_append_36 ?_
      refine y_getI fkX6_130 dX6_append_37 (by decide) rfl rfl ?_
      rw [e7]
      refine x_iconstv (v := 1) dX6_append_40 (by decide) ?_
      refine x_iadd dX6_append_41 ?_
      rw [nI_1]
      refine y_putI fkX6_130 dX6_append_42 (by decide) rfl rfl rfl rfl rfl ?_
      refine x_aload_n dX6_append_45 rfl ?_
      refine y_getI fkX6_130 dX6_append_46 (by decide) rfl rfl ?_
      exact y_ret dX6_append_49 rfl (rfl) (e8) (rfl)
    · exact absurd c_19 hl
  · exact absurd c_8 (by decide)
theorem r_appendL {M : Mem} (h7 : M 84 7 = nI 60) {x : Int32} (hx : 33 ≤ x ∧ x ≤ 126) : Y 1 mX6_append 0 (lent 2 [.ref 84, .int x]) [] M (some (.int (-3))) M := by
  have hj := r_in (M := M) (v := x) (a := 33) (b := 126)
  rw [in_bits.mpr hx] at hj
  skip
  refine x_iload_n dX6_append_0 rfl ?_
  refine x_bipushv (v := 33) dX6_append_1 (by decide) ?_
  refine x_bipushv (v := 126) dX6_append_3 (by decide) ?_
  refine y_callS (as := [_, _, _]) okX6_in lkX6_51 dX6_append_5 rfl (hj) (by omega) rfl (by simp [Value.category]) (Nat.le_of_ble_eq_true rfl) (cat8 rfl) ?_
  refine x_if_ne 13 dX6_append_8 (by decide) (fun c_8 => ?_) (fun c_8 => ?_)
  · refine x_aload_n dX6_append_13 rfl ?_
    refine y_getI fkX6_130 dX6_append_14 (by decide) rfl rfl ?_
    rw [h7]
    refine x_bipushv (v := 60) dX6_append_17 (by decide) ?_
    refine x_icmp_ne 25 dX6_append_19 (by decide) (fun c_19 => ?_) (fun c_19 => ?_)
    · exact absurd rfl c_19
    · refine x_bipushv (v := -3) dX6_append_22 (by decide) ?_
      exact y_ret dX6_append_24 rfl (rfl) (rfl) (rfl)
  · exact absurd c_8 (by decide)
theorem r_append0 {M : Mem} {x : Int32} (hx : ¬ (33 ≤ x ∧ x ≤ 126)) : Y 1 mX6_append 0 (lent 2 [.ref 84, .int x]) [] M (some (.int (-1))) M := by
  skip
  refine x_iload_n dX6_append_0 rfl ?_
  refine x_bipushv (v := 33) dX6_append_1 (by decide) ?_
  refine x_bipushv (v := 126) dX6_append_3 (by decide) ?_
  refine y_callS (as := [_, _, _]) okX6_in lkX6_51 dX6_append_5 rfl (r_in) (by omega) rfl (by simp [Value.category]) (Nat.le_of_ble_eq_true rfl) (cat8 rfl) ?_
  refine x_if_ne 13 dX6_append_8 (by decide) (fun c_8 => ?_) (fun c_8 => ?_)
  · exact absurd (in_bits.mp (b2i_nz c_8)) hx
  · refine x_iconstv (v := -1) dX6_append_11 (by decide) ?_
    exact y_ret dX6_append_12 rfl (rfl) (rfl) (rfl)
theorem y_clear {M : Mem} : Y 0 mX5_clear 0 (lent 2 [.ref 0]) [] M (some (.int (M 73 0))) (updM M 73 0 0) := by
  skip
  refine x_aload_n dX5_clear_0 rfl ?_
  refine y_getR fkX5_32 dX5_clear_1 (by decide) rfl rfl ?_
  refine y_getI fkX5_114 dX5_clear_4 (by decide) rfl rfl ?_
  refine x_istore_n dX5_clear_7 (by decide) rfl ?_
  refine x_aload_n dX5_clear_8 rfl ?_
  refine y_getR fkX5_32 dX5_clear_9 (by decide) rfl rfl ?_
  refine x_iconstv (v := 0) dX5_clear_12 (by decide) ?_
  refine y_putI fkX5_114 dX5_clear_13 (by decide) rfl rfl rfl rfl rfl ?_
  refine x_iload_n dX5_clear_16 rfl ?_
  exact y_ret dX5_clear_17 rfl (rfl) (rfl) (rfl)
theorem r_clear {M : Mem} : Y 0 mX6_clear 0 (lent 2 [.ref 84]) [] M (some (.int (M 84 7))) (updM M 84 7 0) := by
  skip
  refine x_aload_n dX6_clear_0 rfl ?_
  refine y_getI fkX6_130 dX6_clear_1 (by decide) rfl rfl ?_
  refine x_istore_n dX6_clear_4 (by decide) rfl ?_
  refine x_aload_n dX6_clear_5 rfl ?_
  refine x_iconstv (v := 0) dX6_clear_6 (by decide) ?_
  refine y_putI fkX6_130 dX6_clear_7 (by decide) rfl rfl rfl rfl rfl ?_
  refine x_iload_n dX6_clear_10 rfl ?_
  exact y_ret dX6_clear_11 rfl (rfl) (rfl) (rfl)
theorem y_undo1 {M : Mem} {K w : Nat} (hK : K ≤ 4) (h0 : 0 < K) (hw : w < 4) (hk : M 31 0 = nI K) (hn : M 31 2 = nI w) : Y 3 mX5_undo 0 (lent 1 [.ref 0]) [] M (some (.int (nI (K - 1)))) (updM (updM (cfM M 1 (33 + 10 * w)) 31 0 (nI (K - 1))) 31 2 (nI ((w + 3) % 4))) := by
  have e7 : updM (updM (cfM M 1 (33 + 10 * w)) 31 0 (nI (K - 1))) 31 2 (nI ((w + 3) % 4)) 31 0 = nI (K - 1) := by simp [updM]
  skip
  refine x_aload_n dX5_undo_0 rfl ?_
  refine y_getR fkX5_25 dX5_undo_1 (by decide) rfl rfl ?_
  refine y_getI fkX5_237 dX5_undo_4 (by decide) rfl rfl ?_
  rw [hk]
  refine x_if_gt 13 dX5_undo_7 (by decide) (fun c_7 => ?_) (fun c_7 => ?_)
  · refine x_aload_n dX5_undo_13 rfl ?_
    refine y_getR fkX5_25 dX5_undo_14 (by decide) rfl rfl ?_
    refine x_aload_n dX5_undo_17 rfl ?_
    refine y_getR fkX5_10 dX5_undo_18 (by decide) rfl rfl ?_
    refine y_callV (as := [_]) okX1_takeBack lkX5_252 dX5_undo_21 rfl (by decide) rfl (y_takeBack hK h0 hw hk hn) (by omega) rfl (by simp [Value.category]) (Nat.le_of_ble_eq_true rfl) rfl rfl (cat8 rfl) ?_
    refine x_aload_n dX5_undo_24 rfl ?_
    refine y_getR fkX5_25 dX5_undo_25 (by decide) rfl rfl ?_
    refine y_getI fkX5_237 dX5_undo_28 (by decide) rfl rfl ?_
    exact y_ret dX5_undo_31 rfl (rfl) (e7) (rfl)
  · exact absurd (nI_lt (a := 0) (b := K) h0 (by omega)) c_7
theorem y_undo0 {M : Mem} (hk : M 31 0 = nI 0) : Y 3 mX5_undo 0 (lent 1 [.ref 0]) [] M (some (.int (-2))) M := by
  skip
  refine x_aload_n dX5_undo_0 rfl ?_
  refine y_getR fkX5_25 dX5_undo_1 (by decide) rfl rfl ?_
  refine y_getI fkX5_237 dX5_undo_4 (by decide) rfl rfl ?_
  rw [hk]
  refine x_if_gt 13 dX5_undo_7 (by decide) (fun c_7 => ?_) (fun c_7 => ?_)
  · exact absurd c_7 (by decide)
  · refine x_bipushv (v := -2) dX5_undo_10 (by decide) ?_
    exact y_ret dX5_undo_12 rfl (rfl) (rfl) (rfl)
theorem r_undo_loop {M : Mem} {K : Nat} (hK : K ≤ 3) (hk : M 84 3 = nI K) {M9 : Mem} {r : Option Value} (hx : Y 0 mX6_undo 54 [some (.ref 84), some (.int (nI 57))] [] (setR M 85 (rowN (hr (M 87) K) 57 (M 85))) r M9) : ∀ (fu i : Nat), i ≤ 57 → 57 - i < fu → Y 0 mX6_undo 22 [some (.ref 84), some (.int (nI i))] [] (setR M 85 (rowN (hr (M 87) K) i (M 85))) r M9 := by
  intro fu
  induction fu with
  | zero => intro i h1 h2; omega
  | succ fu ih =>
    intro i h1 h2
    refine x_iload_n dX6_undo_22 rfl ?_
    refine x_bipushv (v := 57) dX6_undo_23 (by decide) ?_
    refine x_icmp_ge 54 dX6_undo_25 (by decide) (fun c_25 => ?_) (fun c_25 => ?_)
    · have he := eq57 h1 c_25
      subst he
      exact hx
    · have hlt := lt57 h1 c_25
      refine x_aload_n dX6_undo_28 rfl ?_
      refine y_getR fkX6_7 dX6_undo_29 (by decide) rfl rfl ?_
      refine x_iload_n dX6_undo_32 rfl ?_
      refine x_aload_n dX6_undo_33 rfl ?_
      refine y_getR fkX6_16 dX6_undo_34 (by decide) rfl rfl ?_
      refine x_bipushv (v := 57) dX6_undo_37 (by decide) ?_
      refine x_aload_n dX6_undo_39 rfl ?_
      refine y_getI fkX6_62 dX6_undo_40 (by decide) rfl rfl ?_
      rw [row_ne (k := 84) (by decide), hk]
      refine x_imul dX6_undo_43 ?_
      refine x_iload_n dX6_undo_44 rfl ?_
      refine x_iadd dX6_undo_45 ?_
      rw [show (57 : Int32) = nI 57 from rfl, pk_mul, nI_add]
      refine y_ialdn (j := 57 * K + i) dX6_undo_46 (by decide) rfl (ixN (by omega)) (by omega) ?_
      refine y_iastn (j := i) dX6_undo_47 (by decide) rfl (ixN (by omega)) (by omega) ?_
      refine x_iincv (v := 1) dX6_undo_48 rfl (by decide) rfl (by decide) ?_
      refine x_goto 22 dX6_undo_51 (by decide) ?_
      rw [updM_row, row_at, row_row, row_ne (k := 87) (by decide), show M 87 (57 * K + i) = hr (M 87) K i from rfl, rowN_s, nI_1]
      exact ih (i + 1) (by omega) (by omega)
theorem r_undo1 {M : Mem} {K : Nat} (hK : K ≤ 3) (hk : M 84 3 = nI (K + 1)) : Y 0 mX6_undo 0 (lent 2 [.ref 84]) [] M (some (.int (nI K))) (setR (updM M 84 3 (nI K)) 85 (rowN (hr (M 87) K) 57 (M 85))) := by
  have e3 : updM M 84 3 (nI K) 84 3 = nI K := by simp [updM]
  have e87 : updM M 84 3 (nI K) 87 = M 87 := updM_ne (by decide)
  have e85 : updM M 84 3 (nI K) 85 = M 85 := updM_ne (by decide)
  have e4 : setR (updM M 84 3 (nI K)) 85 (rowN (hr (M 87) K) 57 (M 85)) 84 3 = nI K := by rw [row_ne (by decide)]; exact e3
  have hne : ¬ nI (K + 1) = 0 := fun q => absurd ((nI_eq (a := K + 1) (b := 0) (by omega) (by decide)).mp q) (by omega)
  have hx : Y 0 mX6_undo 54 [some (.ref 84), some (.int (nI 57))] [] (setR (updM M 84 3 (nI K)) 85 (rowN (hr (M 87) K) 57 (M 85))) (some (.int (nI K))) (setR (updM M 84 3 (nI K)) 85 (rowN (hr (M 87) K) 57 (M 85))) := by
    skip
    refine x_aload_n dX6_undo_54 rfl ?_
    refine y_getI fkX6_62 dX6_undo_55 (by decide) rfl rfl ?_
    exact y_ret dX6_undo_58 rfl (rfl) (e4) (rfl)
  have hl := r_undo_loop (M := updM M 84 3 (nI K)) hK e3 (by rw [e87, e85]; exact hx) 58 0 (by omega) (by omega)
  rw [rowN_0, row_self] at hl
  skip
  refine x_aload_n dX6_undo_0 rfl ?_
  refine y_getI fkX6_62 dX6_undo_1 (by decide) rfl rfl ?_
  rw [hk]
  refine x_if_ne 10 dX6_undo_4 (by decide) (fun c_4 => ?_) (fun c_4 => ?_)
  · refine x_aload_n dX6_undo_10 rfl ?_
    refine x_dup_r dX6_undo_11 ?_
    refine y_getI fkX6_62 dX6_undo_12 (by decide) rfl rfl ?_
    rw [hk]
    refine x_iconstv (v := 1) dX6_undo_15 (by decide) ?_
    refine x_isub dX6_undo_16 ?_
    rw [nI_s1]
    refine y_putI fkX6_62 dX6_undo_17 (by decide) rfl rfl rfl rfl rfl ?_
    refine x_iconstv (v := 0) dX6_undo_20 (by decide) ?_
    refine x_istore_n dX6_undo_21 (by decide) rfl ?_
    exact hl
  · exact absurd c_4 hne
theorem r_undo0 {M : Mem} (hk : M 84 3 = nI 0) : Y 0 mX6_undo 0 (lent 2 [.ref 84]) [] M (some (.int (-2))) M := by
  skip
  refine x_aload_n dX6_undo_0 rfl ?_
  refine y_getI fkX6_62 dX6_undo_1 (by decide) rfl rfl ?_
  rw [hk]
  refine x_if_ne 10 dX6_undo_4 (by decide) (fun c_4 => ?_) (fun c_4 => ?_)
  · exact absurd rfl c_4
  · refine x_bipushv (v := -2) dX6_undo_7 (by decide) ?_
    exact y_ret dX6_undo_9 rfl (rfl) (rfl) (rfl)
theorem y_save {M : Mem} {V : Row} (hR : RM M 1 V) : Y 2 mX5_save 0 (lent 1 [.ref 0]) [] M (some (.int (V 0))) (updM (cfM M 21 1) 0 7 1) := by
  have e9 : updM (cfM M 21 1) 0 7 1 1 9 = V 0 := by
    rw [updM_ne (by decide), cf_ne (by omega)]
    exact hR.1.2.2.1
  skip
  refine x_aload_n dX5_save_0 rfl ?_
  refine y_getR fkX5_19 dX5_save_1 (by decide) rfl rfl ?_
  refine x_aload_n dX5_save_4 rfl ?_
  refine y_getR fkX5_10 dX5_save_5 (by decide) rfl rfl ?_
  refine y_callV (as := [_]) okX2_copyFrom lkX5_243 dX5_save_8 rfl (by decide) rfl (y_copyFrom mk21 mk1) (by omega) rfl (by simp [Value.category]) (Nat.le_of_ble_eq_true rfl) rfl rfl (cat8 rfl) ?_
  refine x_aload_n dX5_save_11 rfl ?_
  refine x_iconstv (v := 1) dX5_save_12 (by decide) ?_
  refine y_putI fkX5_255 dX5_save_13 (by decide) rfl rfl rfl rfl rfl ?_
  refine x_aload_n dX5_save_16 rfl ?_
  refine y_getR fkX5_10 dX5_save_17 (by decide) rfl rfl ?_
  refine y_getI fkX5_210 dX5_save_20 (by decide) rfl rfl ?_
  exact y_ret dX5_save_23 rfl (rfl) (e9) (rfl)
theorem r_save_loop {M : Mem} {M9 : Mem} {r : Option Value} (hx : Y 0 mX6_save 26 [some (.ref 84), some (.int (nI 57))] [] (setR M 88 (rowN (M 85) 57 (M 88))) r M9) : ∀ (fu i : Nat), i ≤ 57 → 57 - i < fu → Y 0 mX6_save 2 [some (.ref 84), some (.int (nI i))] [] (setR M 88 (rowN (M 85) i (M 88))) r M9 := by
  intro fu
  induction fu with
  | zero => intro i h1 h2; omega
  | succ fu ih =>
    intro i h1 h2
    refine x_iload_n dX6_save_2 rfl ?_
    refine x_bipushv (v := 57) dX6_save_3 (by decide) ?_
    refine x_icmp_ge 26 dX6_save_5 (by decide) (fun c_5 => ?_) (fun c_5 => ?_)
    · have he := eq57 h1 c_5
      subst he
      exact hx
    · have hlt := lt57 h1 c_5
      refine x_aload_n dX6_save_8 rfl ?_
      refine y_getR fkX6_19 dX6_save_9 (by decide) rfl rfl ?_
      refine x_iload_n dX6_save_12 rfl ?_
      refine x_aload_n dX6_save_13 rfl ?_
      refine y_getR fkX6_7 dX6_save_14 (by decide) rfl rfl ?_
      refine x_iload_n dX6_save_17 rfl ?_
      refine y_ialdn (j := i) dX6_save_18 (by decide) rfl (ixN (by omega)) (by omega) ?_
      refine y_iastn (j := i) dX6_save_19 (by decide) rfl (ixN (by omega)) (by omega) ?_
      refine x_iincv (v := 1) dX6_save_20 rfl (by decide) rfl (by decide) ?_
      refine x_goto 2 dX6_save_23 (by decide) ?_
      rw [row_ne (k := 85) (by decide), updM_row, row_at, row_row, rowN_s, nI_1]
      exact ih (i + 1) (by omega) (by omega)
theorem r_save {M : Mem} : Y 0 mX6_save 0 (lent 2 [.ref 84]) [] M (some (.int (M 85 0))) (updM (setR M 88 (rowN (M 85) 57 (M 88))) 84 5 1) := by
  have e9 : updM (setR M 88 (rowN (M 85) 57 (M 88))) 84 5 1 85 0 = M 85 0 := by
    rw [updM_ne (by decide), row_ne (by decide)]
  have hx : Y 0 mX6_save 26 [some (.ref 84), some (.int (nI 57))] [] (setR M 88 (rowN (M 85) 57 (M 88))) (some (.int (M 85 0))) (updM (setR M 88 (rowN (M 85) 57 (M 88))) 84 5 1) := by
    skip
    refine x_aload_n dX6_save_26 rfl ?_
    refine x_iconstv (v := 1) dX6_save_27 (by decide) ?_
    refine y_putI fkX6_184 dX6_save_28 (by decide) rfl rfl rfl rfl rfl ?_
    refine x_aload_n dX6_save_31 rfl ?_
    refine y_getR fkX6_7 dX6_save_32 (by decide) rfl rfl ?_
    refine x_iconstv (v := 0) dX6_save_35 (by decide) ?_
    refine y_ialdn (j := 0) dX6_save_36 (by decide) rfl (by decide) (by decide) ?_
    exact y_ret dX6_save_37 rfl (rfl) (e9) (rfl)
  have hl := r_save_loop hx 58 0 (by omega) (by omega)
  rw [rowN_0, row_self] at hl
  skip
  refine x_iconstv (v := 0) dX6_save_0 (by decide) ?_
  refine x_istore_n dX6_save_1 (by decide) rfl ?_
  exact hl
theorem y_restore0 {M : Mem} (h7 : M 0 7 = 0) : Y 3 mX5_restore 0 (lent 1 [.ref 0]) [] M (some (.int (-2))) M := by
  skip
  refine x_aload_n dX5_restore_0 rfl ?_
  refine y_getI fkX5_255 dX5_restore_1 (by decide) rfl rfl ?_
  rw [h7]
  refine x_if_ne 10 dX5_restore_4 (by decide) (fun c_4 => ?_) (fun c_4 => ?_)
  · exact absurd rfl c_4
  · refine x_bipushv (v := -2) dX5_restore_7 (by decide) ?_
    exact y_ret dX5_restore_9 rfl (rfl) (rfl) (rfl)
theorem y_restore1 {M : Mem} {V : Row} {K : Nat} {h : Nat → Row} (hC : CI M V K h) (hV : WF V) {S : Row} (hS : RM M 21 S) (h7 : nT S ≤ 7) (hs : M 0 7 = 1) : ∃ M' : Mem, Y 3 mX5_restore 0 (lent 1 [.ref 0]) [] M (some (.int (S 0))) M' ∧ CI M' S (kup K) (hup K h V) ∧ FC M M' := by
  obtain ⟨hn1, hn2⟩ := WF_n hV
  have hC0 := hC
  obtain ⟨hR, hH⟩ := hC0
  have hH0 := hH
  obtain ⟨hK, hk0, w, hw, hk2, _⟩ := hH0
  have hrec := y_record hK hw hk0 hk2
  have hrr := CI_rec hC hn1 hw hk2
  rw [show updM (cfM (updM M 31 2 (nI ((w + 1) % 4))) (33 + 10 * ((w + 1) % 4)) 1) 31 0 (nI (min (K + 1) 4)) = recC M K w from rfl] at hrec
  generalize recC M K w = M1 at *
  obtain ⟨hC1, hF1⟩ := hrr
  have hR1 := hC1.1
  have hS1 : RM M1 21 S := RM_congr (fun c a b => hF1 c (by omega)) hS
  have hS2 : RM (cfM M1 1 21) 1 S := RM_cf hS1 h7 (by omega)
  refine ⟨cfM M1 1 21, ?_, ⟨hS2, HC_fr (fun c a b => cf_ne (by omega)) hC1.2⟩, FC.tr hF1 (fun c hc => cf_ne (by omega))⟩
  skip
  refine x_aload_n dX5_restore_0 rfl ?_
  refine y_getI fkX5_255 dX5_restore_1 (by decide) rfl rfl ?_
  rw [hs]
  refine x_if_ne 10 dX5_restore_4 (by decide) (fun c_4 => ?_) (fun c_4 => ?_)
  · refine x_aload_n dX5_restore_10 rfl ?_
    refine y_getR fkX5_25 dX5_restore_11 (by decide) rfl rfl ?_
    refine x_aload_n dX5_restore_14 rfl ?_
    refine y_getR fkX5_10 dX5_restore_15 (by decide) rfl rfl ?_
    refine y_callV (as := [_]) okX1_record lkX5_64 dX5_restore_18 rfl (by decide) rfl (hrec) (by omega) rfl (by simp [Value.category]) (Nat.le_of_ble_eq_true rfl) rfl rfl (cat8 rfl) ?_
    refine x_aload_n dX5_restore_21 rfl ?_
    refine y_getR fkX5_10 dX5_restore_22 (by decide) rfl rfl ?_
    refine x_aload_n dX5_restore_25 rfl ?_
    refine y_getR fkX5_19 dX5_restore_26 (by decide) rfl rfl ?_
    refine y_callV (as := [_]) okX2_copyFrom lkX5_243 dX5_restore_29 rfl (by decide) rfl (((y_copyFrom mk1 mk21).more (d' := 2) (by omega))) (by omega) rfl (by simp [Value.category]) (Nat.le_of_ble_eq_true rfl) rfl rfl (cat8 rfl) ?_
    refine x_aload_n dX5_restore_32 rfl ?_
    refine y_getR fkX5_10 dX5_restore_33 (by decide) rfl rfl ?_
    refine y_getI fkX5_210 dX5_restore_36 (by decide) rfl rfl ?_
    exact y_ret dX5_restore_39 rfl (rfl) (hS2.1.2.2.1) (rfl)
  · exact absurd c_4 (by decide)
theorem r_rest_loop {M : Mem} {M9 : Mem} {r : Option Value} (hx : Y 1 mX6_restore 40 [some (.ref 84), some (.int (nI 57))] [] (setR M 85 (rowN (M 88) 57 (M 85))) r M9) : ∀ (fu i : Nat), i ≤ 57 → 57 - i < fu → Y 1 mX6_restore 16 [some (.ref 84), some (.int (nI i))] [] (setR M 85 (rowN (M 88) i (M 85))) r M9 := by
  intro fu
  induction fu with
  | zero => intro i h1 h2; omega
  | succ fu ih =>
    intro i h1 h2
    refine x_iload_n dX6_restore_16 rfl ?_
    refine x_bipushv (v := 57) dX6_restore_17 (by decide) ?_
    refine x_icmp_ge 40 dX6_restore_19 (by decide) (fun c_19 => ?_) (fun c_19 => ?_)
    · have he := eq57 h1 c_19
      subst he
      exact hx
    · have hlt := lt57 h1 c_19
      refine x_aload_n dX6_restore_22 rfl ?_
      refine y_getR fkX6_7 dX6_restore_23 (by decide) rfl rfl ?_
      refine x_iload_n dX6_restore_26 rfl ?_
      refine x_aload_n dX6_restore_27 rfl ?_
      refine y_getR fkX6_19 dX6_restore_28 (by decide) rfl rfl ?_
      refine x_iload_n dX6_restore_31 rfl ?_
      refine y_ialdn (j := i) dX6_restore_32 (by decide) rfl (ixN (by omega)) (by omega) ?_
      refine y_iastn (j := i) dX6_restore_33 (by decide) rfl (ixN (by omega)) (by omega) ?_
      refine x_iincv (v := 1) dX6_restore_34 rfl (by decide) rfl (by decide) ?_
      refine x_goto 16 dX6_restore_37 (by decide) ?_
      rw [row_ne (k := 88) (by decide), updM_row, row_at, row_row, rowN_s, nI_1]
      exact ih (i + 1) (by omega) (by omega)
theorem r_restore1 {M : Mem} {K : Nat} (hK : K ≤ 4) (hk : M 84 3 = nI K) (h5 : M 84 5 = 1) : Y 1 mX6_restore 0 (lent 2 [.ref 84]) [] M (some (.int (M 88 0))) (setR (recM M K) 85 (rowN (M 88) 57 (M 85))) := by
  have hrec := r_record hK hk
  have e9 : setR (recM M K) 85 (rowN (M 88) 57 (M 85)) 85 0 = M 88 0 := by rw [row_at]; rfl
  have hx : Y 1 mX6_restore 40 [some (.ref 84), some (.int (nI 57))] [] (setR (recM M K) 85 (rowN (M 88) 57 (M 85))) (some (.int (M 88 0))) (setR (recM M K) 85 (rowN (M 88) 57 (M 85))) := by
    skip
    refine x_aload_n dX6_restore_40 rfl ?_
    refine y_getR fkX6_7 dX6_restore_41 (by decide) rfl rfl ?_
    refine x_iconstv (v := 0) dX6_restore_44 (by decide) ?_
    refine y_ialdn (j := 0) dX6_restore_45 (by decide) rfl (by decide) (by decide) ?_
    exact y_ret dX6_restore_46 rfl (rfl) (e9) (rfl)
  have hl := r_rest_loop (M := recM M K) (by rw [rec_ne (c := 88) (by decide) (by decide), rec_85]; exact hx) 58 0 (by omega) (by omega)
  rw [rowN_0, row_self] at hl
  skip
  refine x_aload_n dX6_restore_0 rfl ?_
  refine y_getI fkX6_184 dX6_restore_1 (by decide) rfl rfl ?_
  rw [h5]
  refine x_if_ne 10 dX6_restore_4 (by decide) (fun c_4 => ?_) (fun c_4 => ?_)
  · refine x_aload_n dX6_restore_10 rfl ?_
    refine y_callV0 okX6_record lkX6_108 dX6_restore_11 (by decide) rfl (hrec) (by omega) (Nat.le_of_ble_eq_true rfl) rfl rfl (cat8 rfl) ?_
    refine x_iconstv (v := 0) dX6_restore_14 (by decide) ?_
    refine x_istore_n dX6_restore_15 (by decide) rfl ?_
    exact hl
  · exact absurd c_4 (by decide)
theorem r_restore0 {M : Mem} (h5 : M 84 5 = 0) : Y 1 mX6_restore 0 (lent 2 [.ref 84]) [] M (some (.int (-2))) M := by
  skip
  refine x_aload_n dX6_restore_0 rfl ?_
  refine y_getI fkX6_184 dX6_restore_1 (by decide) rfl rfl ?_
  rw [h5]
  refine x_if_ne 10 dX6_restore_4 (by decide) (fun c_4 => ?_) (fun c_4 => ?_)
  · exact absurd rfl c_4
  · refine x_bipushv (v := -2) dX6_restore_7 (by decide) ?_
    exact y_ret dX6_restore_9 rfl (rfl) (rfl) (rfl)
