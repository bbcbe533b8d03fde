theorem y_comeL {M : Mem} {mk w : Int32} (hm : 0 ≤ mk ∧ mk < 6) (hw : 0 ≤ w ∧ w ≤ 63) (h7 : M 1 7 = 7) : Y 3 mX5_come 0 (lent 3 [.ref 0, .int mk, .int w]) [] M (some (.int (-3))) M := by
  have hi := y_isKind (M := M) (k := mk)
  rw [in_bitl.mpr hm] at hi
  have hj := y_isSet (M := M) (k := w)
  rw [in_bits.mpr hw] at hj
  skip
  refine x_iload_n dX5_come_0 rfl ?_
  refine y_callS (as := [_]) okX5_isKind lkX5_54 dX5_come_1 rfl (hi) (by omega) rfl (by simp [Value.category]) (Nat.le_of_ble_eq_true rfl) (cat8 rfl) ?_
  refine x_if_eq 14 dX5_come_4 (by decide) (fun c_4 => ?_) (fun c_4 => ?_)
  · exact absurd c_4 (by decide)
  · refine x_iload_n dX5_come_7 rfl ?_
    refine y_callS (as := [_]) okX5_isSetOfKinds lkX5_58 dX5_come_8 rfl (hj) (by omega) rfl (by simp [Value.category]) (Nat.le_of_ble_eq_true rfl) (cat8 rfl) ?_
    refine x_if_ne 16 dX5_come_11 (by decide) (fun c_11 => ?_) (fun c_11 => ?_)
    · refine x_aload_n dX5_come_16 rfl ?_
      refine y_getR fkX5_10 dX5_come_17 (by decide) rfl rfl ?_
      refine y_getI fkX5_61 dX5_come_20 (by decide) rfl rfl ?_
      rw [h7]
      refine x_bipushv (v := 7) dX5_come_23 (by decide) ?_
      refine x_icmp_lt 31 dX5_come_25 (by decide) (fun c_25 => ?_) (fun c_25 => ?_)
      · exact absurd c_25 (by decide)
      · refine x_bipushv (v := -3) dX5_come_28 (by decide) ?_
        exact y_ret dX5_come_30 rfl (rfl) (rfl) (rfl)
    · exact absurd c_11 (by decide)
theorem y_come0 {M : Mem} {mk w : Int32} (hx : ¬ ((0 ≤ mk ∧ mk < 6) ∧ (0 ≤ w ∧ w ≤ 63))) : Y 3 mX5_come 0 (lent 3 [.ref 0, .int mk, .int w]) [] M (some (.int (-1))) M := by
  skip
  refine x_iload_n dX5_come_0 rfl ?_
  refine y_callS (as := [_]) okX5_isKind lkX5_54 dX5_come_1 rfl (y_isKind) (by omega) rfl (by simp [Value.category]) (Nat.le_of_ble_eq_true rfl) (cat8 rfl) ?_
  refine x_if_eq 14 dX5_come_4 (by decide) (fun c_4 => ?_) (fun c_4 => ?_)
  · refine x_iconstv (v := -1) dX5_come_14 (by decide) ?_
    exact y_ret dX5_come_15 rfl (rfl) (rfl) (rfl)
  · refine x_iload_n dX5_come_7 rfl ?_
    refine y_callS (as := [_]) okX5_isSetOfKinds lkX5_58 dX5_come_8 rfl (y_isSet) (by omega) rfl (by simp [Value.category]) (Nat.le_of_ble_eq_true rfl) (cat8 rfl) ?_
    refine x_if_ne 16 dX5_come_11 (by decide) (fun c_11 => ?_) (fun c_11 => ?_)
    · exact absurd ⟨in_bitl.mp (b2i_nz c_4), in_bits.mp (b2i_nz c_11)⟩ hx
    · refine x_iconstv (v := -1) dX5_come_14 (by decide) ?_
      exact y_ret dX5_come_15 rfl (rfl) (rfl) (rfl)
theorem y_want0 {M : Mem} {V : Row} (hR : RM M 1 V) (hV : WF V) {t x : Int32} (hx : ¬ (hasB V t = true ∧ 0 ≤ x ∧ x ≤ 63)) : Y 3 mX5_want 0 (lent 4 [.ref 0, .int t, .int x]) [] M (some (.int (-1))) M := by
  skip
  refine x_aload_n dX5_want_0 rfl ?_
  refine y_getR fkX5_10 dX5_want_1 (by decide) rfl rfl ?_
  refine x_iload_n dX5_want_4 rfl ?_
  refine y_callV (as := [_]) okX2_has lkX5_72 dX5_want_5 rfl (by decide) rfl (y_has mk1 hR hV) (by omega) rfl (by simp [Value.category]) (Nat.le_of_ble_eq_true rfl) rfl rfl (cat8 rfl) ?_
  refine x_if_eq 18 dX5_want_8 (by decide) (fun c_8 => ?_) (fun c_8 => ?_)
  · refine x_iconstv (v := -1) dX5_want_18 (by decide) ?_
    exact y_ret dX5_want_19 rfl (rfl) (rfl) (rfl)
  · refine x_iload_n dX5_want_11 rfl ?_
    refine y_callS (as := [_]) okX5_isSetOfKinds lkX5_58 dX5_want_12 rfl (y_isSet) (by omega) rfl (by simp [Value.category]) (Nat.le_of_ble_eq_true rfl) (cat8 rfl) ?_
    refine x_if_ne 20 dX5_want_15 (by decide) (fun c_15 => ?_) (fun c_15 => ?_)
    · exact absurd ⟨b2i_nz c_8, in_bits.mp (b2i_nz c_15)⟩ hx
    · refine x_iconstv (v := -1) dX5_want_18 (by decide) ?_
      exact y_ret dX5_want_19 rfl (rfl) (rfl) (rfl)
theorem y_life0 {M : Mem} {k x : Int32} (hx : ¬ ((0 ≤ k ∧ k < 6) ∧ (1 ≤ x ∧ x ≤ 9))) : Y 3 mX5_life 0 (lent 4 [.ref 0, .int k, .int x]) [] M (some (.int (-1))) M := by
  skip
  refine x_iload_n dX5_life_0 rfl ?_
  refine y_callS (as := [_]) okX5_isKind lkX5_54 dX5_life_1 rfl (y_isKind) (by omega) rfl (by simp [Value.category]) (Nat.le_of_ble_eq_true rfl) (cat8 rfl) ?_
  refine x_if_eq 18 dX5_life_4 (by decide) (fun c_4 => ?_) (fun c_4 => ?_)
  · refine x_iconstv (v := -1) dX5_life_18 (by decide) ?_
    exact y_ret dX5_life_19 rfl (rfl) (rfl) (rfl)
  · refine x_iload_n dX5_life_7 rfl ?_
    refine x_iconstv (v := 1) dX5_life_8 (by decide) ?_
    refine x_icmp_lt 18 dX5_life_9 (by decide) (fun c_9 => ?_) (fun c_9 => ?_)
    · refine x_iconstv (v := -1) dX5_life_18 (by decide) ?_
      exact y_ret dX5_life_19 rfl (rfl) (rfl) (rfl)
    · refine x_iload_n dX5_life_12 rfl ?_
      refine x_bipushv (v := 9) dX5_life_13 (by decide) ?_
      refine x_icmp_le 20 dX5_life_15 (by decide) (fun c_15 => ?_) (fun c_15 => ?_)
      · exact absurd ⟨in_bitl.mp (b2i_nz c_4), Int32.not_lt.mp c_9, c_15⟩ hx
      · refine x_iconstv (v := -1) dX5_life_18 (by decide) ?_
        exact y_ret dX5_life_19 rfl (rfl) (rfl) (rfl)
theorem y_go0 {M : Mem} {V : Row} (hR : RM M 1 V) (hV : WF V) {t : Int32} (hx : hasB V t = false) : Y 3 mX5_go 0 (lent 3 [.ref 0, .int t]) [] M (some (.int (-1))) M := by
  have hh := y_has mk1 hR hV (t := t)
  rw [hx] at hh
  skip
  refine x_aload_n dX5_go_0 rfl ?_
  refine y_getR fkX5_10 dX5_go_1 (by decide) rfl rfl ?_
  refine x_iload_n dX5_go_4 rfl ?_
  refine y_callV (as := [_]) okX2_has lkX5_72 dX5_go_5 rfl (by decide) rfl (hh) (by omega) rfl (by simp [Value.category]) (Nat.le_of_ble_eq_true rfl) rfl rfl (cat8 rfl) ?_
  refine x_if_ne 13 dX5_go_8 (by decide) (fun c_8 => ?_) (fun c_8 => ?_)
  · exact absurd c_8 (by decide)
  · refine x_iconstv (v := -1) dX5_go_11 (by decide) ?_
    exact y_ret dX5_go_12 rfl (rfl) (rfl) (rfl)
theorem y_barter0 {M : Mem} {V : Row} (hR : RM M 1 V) (hV : WF V) {a b : Int32} (hx : bothB V a b = false) : Y 6 mX5_barter 0 (lent 3 [.ref 0, .int a, .int b]) [] M (some (.int (-1))) M := by
  have hh := y_hasBoth mk1 hR hV (a := a) (b := b)
  rw [hx] at hh
  skip
  refine x_aload_n dX5_barter_0 rfl ?_
  refine y_getR fkX5_10 dX5_barter_1 (by decide) rfl rfl ?_
  refine x_iload_n dX5_barter_4 rfl ?_
  refine x_iload_n dX5_barter_5 rfl ?_
  refine y_callV (as := [_, _]) okX2_hasBoth lkX5_98 dX5_barter_6 rfl (by decide) rfl ((hh.more (d' := 5) (by omega))) (by omega) rfl (by simp [Value.category]) (Nat.le_of_ble_eq_true rfl) rfl rfl (cat8 rfl) ?_
  refine x_if_ne 14 dX5_barter_9 (by decide) (fun c_9 => ?_) (fun c_9 => ?_)
  · exact absurd c_9 (by decide)
  · refine x_iconstv (v := -1) dX5_barter_12 (by decide) ?_
    exact y_ret dX5_barter_13 rfl (rfl) (rfl) (rfl)
