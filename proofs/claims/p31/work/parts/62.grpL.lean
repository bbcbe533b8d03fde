theorem y_rowAt {M : Mem} {w : Nat} (hw : w < 4) : Y 0 mX1_rowAt 0 (lent 2 [.ref 31, .int (nI w)]) [] M (some (.ref (33 + 10 * w))) M := by
  have hk : ([some 33, some 43, some 53, some 63] : List (Option Nat)).getD (nI w).toNatClampNeg none = some (33 + 10 * w) := by
    rw [nI_clamp (by omega)]
    rcases (show w = 0 ∨ w = 1 ∨ w = 2 ∨ w = 3 by omega) with rfl | rfl | rfl | rfl <;> rfl
  refine x_iload_n dX1_rowAt_0 rfl ?_
  refine x_if_lt 18 dX1_rowAt_1 (by decide) (fun c_1 => ?_) (fun c_1 => ?_)
  · exact absurd c_1 (nI_pos (by omega))
  · refine x_iload_n dX1_rowAt_4 rfl ?_
    refine x_iconstv (v := 4) dX1_rowAt_5 (by decide) ?_
    refine x_icmp_ge 18 dX1_rowAt_6 (by decide) (fun c_6 => ?_) (fun c_6 => ?_)
    · exact absurd c_6 (nI_ge (a := w) (b := 4) hw (by decide))
    · refine x_aload_n dX1_rowAt_9 rfl ?_
      refine y_getR fkX1_11 dX1_rowAt_10 (by decide) rfl rfl ?_
      refine x_iload_n dX1_rowAt_13 rfl ?_
      refine y_aald dX1_rowAt_14 (by decide) rfl (show 33 + 10 * w < NC by unfold NC; omega) (vp_in_nI (n := w) (N := 4) (by omega) (by decide)) hk ?_
      refine x_goto 19 dX1_rowAt_15 (by decide) ?_
      exact x_areturn dX1_rowAt_19 rfl
theorem y_record {M : Mem} {K w : Nat} (hK : K ≤ 4) (hw : w < 4) (hk : M 31 0 = nI K) (hn : M 31 2 = nI w) : Y 2 mX1_record 0 (lent 3 [.ref 31, .ref 1]) [] M none (updM (cfM (updM M 31 2 (nI ((w + 1) % 4))) (33 + 10 * ((w + 1) % 4)) 1) 31 0 (nI (min (K + 1) 4))) := by
  have hw2 : (w + 1) % 4 < 4 := Nat.mod_lt _ (by omega)
  have hk2 := mk_h hw2
  have e1 : nI w + 1 - (nI w + 1) / 4 * 4 = nI ((w + 1) % 4) := by rw [nI_1]; exact rem_nI (a := w + 1) (b := 4) (by omega) (by omega) (by omega)
  have e2 : updM M 31 2 (nI ((w + 1) % 4)) 31 2 = nI ((w + 1) % 4) := by simp [updM]
  have e3 : cfM (updM M 31 2 (nI ((w + 1) % 4))) (33 + 10 * ((w + 1) % 4)) 1 31 0 = nI K := by
    rw [cf_ne (by omega)]
    simpa [updM] using hk
  have e4 : (if (4 : Int32) < nI K + 1 then 4 else nI K + 1) = nI (min (K + 1) 4) := by
    rw [nI_1]
    by_cases h : K = 4
    · subst h; decide
    · show (if nI 4 < nI (K + 1) then nI 4 else nI (K + 1)) = _
      rw [if_neg (nI_nlt (a := 4) (b := K + 1) (by omega) (by decide)), Nat.min_eq_left (by omega)]
  refine x_aload_n dX1_record_0 rfl ?_
  refine x_aload_n dX1_record_1 rfl ?_
  refine y_getI fkX1_18 dX1_record_2 (by decide) rfl rfl ?_
  rw [hn]
  refine x_iconstv (v := 1) dX1_record_5 (by decide) ?_
  refine x_iadd dX1_record_6 ?_
  refine x_iconstv (v := 4) dX1_record_7 (by decide) ?_
  refine x_irem (by decide) dX1_record_8 ?_
  rw [e1]
  refine y_putI fkX1_18 dX1_record_9 (by decide) rfl rfl rfl rfl rfl ?_
  refine x_aload_n dX1_record_12 rfl ?_
  refine x_aload_n dX1_record_13 rfl ?_
  refine y_getI fkX1_18 dX1_record_14 (by decide) rfl rfl ?_
  rw [e2]
  refine y_callV (as := [_]) okX1_rowAt lkX1_22 dX1_record_17 rfl (by decide) rfl (y_rowAt hw2) (by omega) rfl (by simp [Value.category]) (Nat.le_of_ble_eq_true rfl) rfl rfl (cat8 rfl) ?_
  refine x_astore_n dX1_record_20 (by decide) rfl ?_
  refine x_aload_n dX1_record_21 rfl ?_
  refine x_ifnull dX1_record_22 ?_
  refine x_aload_n dX1_record_25 rfl ?_
  refine x_aload_n dX1_record_26 rfl ?_
  refine y_callV (as := [_]) okX2_copyFrom lkX1_26 dX1_record_27 rfl (hk2.1 0 (by decide)) (hk2.2 0 (by decide)) (y_copyFrom hk2 mk1) (by omega) rfl (by simp [Value.category]) (Nat.le_of_ble_eq_true rfl) rfl rfl (cat8 rfl) ?_
  refine x_aload_n dX1_record_30 rfl ?_
  refine x_aload_n dX1_record_31 rfl ?_
  refine y_getI fkX1_30 dX1_record_32 (by decide) rfl rfl ?_
  rw [e3]
  refine x_iconstv (v := 1) dX1_record_35 (by decide) ?_
  refine x_iadd dX1_record_36 ?_
  refine x_iconstv (v := 4) dX1_record_37 (by decide) ?_
  refine x_mmin lkX1_33 dX1_record_38 (by omega) (cat8 rfl) ?_
  rw [e4]
  refine y_putI fkX1_30 dX1_record_41 (by decide) rfl rfl rfl rfl rfl ?_
  exact y_vret dX1_record_44 rfl (rfl)
theorem y_takeBack {M : Mem} {K w : Nat} (hK : K ≤ 4) (h0 : 0 < K) (hw : w < 4) (hk : M 31 0 = nI K) (hn : M 31 2 = nI w) : Y 2 mX1_takeBack 0 (lent 3 [.ref 31, .ref 1]) [] M none (updM (updM (cfM M 1 (33 + 10 * w)) 31 0 (nI (K - 1))) 31 2 (nI ((w + 3) % 4))) := by
  have hk2 := mk_h hw
  obtain ⟨m, rfl⟩ : ∃ m, K = m + 1 := ⟨K - 1, by omega⟩
  have e3 : cfM M 1 (33 + 10 * w) 31 0 = nI (m + 1) := by
    rw [cf_ne (by omega)]
    exact hk
  have e2 : updM (cfM M 1 (33 + 10 * w)) 31 0 (nI (m + 1) - 1) 31 2 = nI w := by
    rw [updM_at, if_neg (by omega), cf_ne (by omega)]
    exact hn
  have e1 : nI w + 4 - 1 - (nI w + 4 - 1) / 4 * 4 = nI ((w + 3) % 4) := by
    have e0 : nI w + 4 - 1 = nI (w + 3) := by
      rw [show (4 : Int32) = nI 4 from rfl, nI_add, show w + 4 = (w + 3) + 1 from rfl, nI_pred]
    rw [e0]
    exact rem_nI (a := w + 3) (b := 4) (by omega) (by omega) (by omega)
  refine x_aload_n dX1_takeBack_0 rfl ?_
  refine x_aload_n dX1_takeBack_1 rfl ?_
  refine y_getI fkX1_18 dX1_takeBack_2 (by decide) rfl rfl ?_
  rw [hn]
  refine y_callV (as := [_]) okX1_rowAt lkX1_22 dX1_takeBack_5 rfl (by decide) rfl (y_rowAt hw) (by omega) rfl (by simp [Value.category]) (Nat.le_of_ble_eq_true rfl) rfl rfl (cat8 rfl) ?_
  refine x_astore_n dX1_takeBack_8 (by decide) rfl ?_
  refine x_aload_n dX1_takeBack_9 rfl ?_
  refine y_getI fkX1_30 dX1_takeBack_10 (by decide) rfl rfl ?_
  rw [hk]
  refine x_if_le 49 dX1_takeBack_13 (by decide) (fun c_13 => ?_) (fun c_13 => ?_)
  · exact absurd c_13 (nI_nle (by omega) (by omega))
  · refine x_aload_n dX1_takeBack_16 rfl ?_
    refine x_ifnull dX1_takeBack_17 ?_
    refine x_aload_n dX1_takeBack_20 rfl ?_
    refine x_aload_n dX1_takeBack_21 rfl ?_
    refine y_callV (as := [_]) okX2_copyFrom lkX1_26 dX1_takeBack_22 rfl (by decide) rfl (y_copyFrom mk1 hk2) (by omega) rfl (by simp [Value.category]) (Nat.le_of_ble_eq_true rfl) rfl rfl (cat8 rfl) ?_
    refine x_aload_n dX1_takeBack_25 rfl ?_
    refine x_dup_r dX1_takeBack_26 ?_
    refine y_getI fkX1_30 dX1_takeBack_27 (by decide) rfl rfl ?_
    rw [e3]
    refine x_iconstv (v := 1) dX1_takeBack_30 (by decide) ?_
    refine x_isub dX1_takeBack_31 ?_
    refine y_putI fkX1_30 dX1_takeBack_32 (by decide) rfl rfl rfl rfl rfl ?_
    refine x_aload_n dX1_takeBack_35 rfl ?_
    refine x_aload_n dX1_takeBack_36 rfl ?_
    refine y_getI fkX1_18 dX1_takeBack_37 (by decide) rfl rfl ?_
    rw [e2]
    refine x_iconstv (v := 4) dX1_takeBack_40 (by decide) ?_
    refine x_iadd dX1_takeBack_41 ?_
    refine x_iconstv (v := 1) dX1_takeBack_42 (by decide) ?_
    refine x_isub dX1_takeBack_43 ?_
    refine x_iconstv (v := 4) dX1_takeBack_44 (by decide) ?_
    refine x_irem (by decide) dX1_takeBack_45 ?_
    rw [e1]
    refine y_putI fkX1_18 dX1_takeBack_46 (by decide) rfl rfl rfl rfl rfl ?_
    exact y_vret dX1_takeBack_49 rfl (by rw [nI_pred]; rfl)
