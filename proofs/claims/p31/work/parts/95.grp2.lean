theorem y_undo1 {M : Mem} {K w : Nat} (hK : K ≤ 4) (h0 : 0 < K) (hw : w < 4) (hk : M 31 0 = nI K) (hn : M 31 2 = nI w) : Y 3 mX5_undo 0 (lent 1 [.ref 0]) [] M (some (.int (nI (K - 1)))) (updM (updM (cfM M 1 (33 + 10 * w)) 31 0 (nI (K - 1))) 31 2 (nI ((w + 3) % 4))) := by
  have e7 : updM (updM (cfM M 1 (33 + 10 * w)) 31 0 (nI (K - 1))) 31 2 (nI ((w + 3) % 4)) 31 0 = nI (K - 1) := by simp [updM]
  skip
  refine x_aload_n dX5_undo_0 rfl ?_
  refine y_getR fkX5_25 dX5_undo_1 (by decide) rfl rfl ?_
  refine y_getI fkX5_237 dX5_undo_4 (by decide) rfl rfl ?_
  rw [hk]
  refine x_if_gt 13 dX5_undo_7 (by decide) (fun c_7 => ?_) (fun c_7 => ?_)
  · refine x_aload_n dX5_undo_13 rfl ?_
    refine y_getR fkX5_25 dX5_undo_14 (by decide) rfl rfl ?_
    refine x_aload_n dX5_undo_17 rfl ?_
    refine y_getR fkX5_10 dX5_undo_18 (by decide) rfl rfl ?_
    refine y_callV (as := [_]) okX1_takeBack lkX5_252 dX5_undo_21 rfl (by decide) rfl (y_takeBack hK h0 hw hk hn) (by omega) rfl (by simp [Value.category]) (Nat.le_of_ble_eq_true rfl) rfl rfl (cat8 rfl) ?_
    refine x_aload_n dX5_undo_24 rfl ?_
    refine y_getR fkX5_25 dX5_undo_25 (by decide) rfl rfl ?_
    refine y_getI fkX5_237 dX5_undo_28 (by decide) rfl rfl ?_
    exact y_ret dX5_undo_31 rfl (rfl) (e7) (rfl)
  · exact absurd (nI_lt (a := 0) (b := K) h0 (by omega)) c_7
theorem y_undo0 {M : Mem} (hk : M 31 0 = nI 0) : Y 3 mX5_undo 0 (lent 1 [.ref 0]) [] M (some (.int (-2))) M := by
  skip
  refine x_aload_n dX5_undo_0 rfl ?_
  refine y_getR fkX5_25 dX5_undo_1 (by decide) rfl rfl ?_
  refine y_getI fkX5_237 dX5_undo_4 (by decide) rfl rfl ?_
  rw [hk]
  refine x_if_gt 13 dX5_undo_7 (by decide) (fun c_7 => ?_) (fun c_7 => ?_)
  · exact absurd c_7 (by decide)
  · refine x_bipushv (v := -2) dX5_undo_10 (by decide) ?_
    exact y_ret dX5_undo_12 rfl (rfl) (rfl) (rfl)
theorem y_restore0 {M : Mem} (h7 : M 0 7 = 0) : Y 3 mX5_restore 0 (lent 1 [.ref 0]) [] M (some (.int (-2))) M := by
  skip
  refine x_aload_n dX5_restore_0 rfl ?_
  refine y_getI fkX5_255 dX5_restore_1 (by decide) rfl rfl ?_
  rw [h7]
  refine x_if_ne 10 dX5_restore_4 (by decide) (fun c_4 => ?_) (fun c_4 => ?_)
  · exact absurd rfl c_4
  · refine x_bipushv (v := -2) dX5_restore_7 (by decide) ?_
    exact y_ret dX5_restore_9 rfl (rfl) (rfl) (rfl)
theorem y_restore1 {M : Mem} {V : Row} {K : Nat} {h : Nat → Row} (hC : CI M V K h) (hV : WF V) {S : Row} (hS : RM M 21 S) (h7 : nT S ≤ 7) (hs : M 0 7 = 1) : ∃ M' : Mem, Y 3 mX5_restore 0 (lent 1 [.ref 0]) [] M (some (.int (S 0))) M' ∧ CI M' S (kup K) (hup K h V) ∧ FC M M' := by
  obtain ⟨hn1, hn2⟩ := WF_n hV
  have hC0 := hC
  obtain ⟨hR, hH⟩ := hC0
  have hH0 := hH
  obtain ⟨hK, hk0, w, hw, hk2, _⟩ := hH0
  have hrec := y_record hK hw hk0 hk2
  have hrr := CI_rec hC hn1 hw hk2
  rw [show updM (cfM (updM M 31 2 (nI ((w + 1) % 4))) (33 + 10 * ((w + 1) % 4)) 1) 31 0 (nI (min (K + 1) 4)) = recC M K w from rfl] at hrec
  generalize recC M K w = M1 at *
  obtain ⟨hC1, hF1⟩ := hrr
  have hR1 := hC1.1
  have hS1 : RM M1 21 S := RM_congr (fun c a b => hF1 c (by omega)) hS
  have hS2 : RM (cfM M1 1 21) 1 S := RM_cf hS1 h7 (by omega)
  refine ⟨cfM M1 1 21, ?_, ⟨hS2, HC_fr (fun c a b => cf_ne (by omega)) hC1.2⟩, FC.tr hF1 (fun c hc => cf_ne (by omega))⟩
  skip
  refine x_aload_n dX5_restore_0 rfl ?_
  refine y_getI fkX5_255 dX5_restore_1 (by decide) rfl rfl ?_
  rw [hs]
  refine x_if_ne 10 dX5_restore_4 (by decide) (fun c_4 => ?_) (fun c_4 => ?_)
  · refine x_aload_n dX5_restore_10 rfl ?_
    refine y_getR fkX5_25 dX5_restore_11 (by decide) rfl rfl ?_
    refine x_aload_n dX5_restore_14 rfl ?_
    refine y_getR fkX5_10 dX5_restore_15 (by decide) rfl rfl ?_
    refine y_callV (as := [_]) okX1_record lkX5_64 dX5_restore_18 rfl (by decide) rfl (hrec) (by omega) rfl (by simp [Value.category]) (Nat.le_of_ble_eq_true rfl) rfl rfl (cat8 rfl) ?_
    refine x_aload_n dX5_restore_21 rfl ?_
    refine y_getR fkX5_10 dX5_restore_22 (by decide) rfl rfl ?_
    refine x_aload_n dX5_restore_25 rfl ?_
    refine y_getR fkX5_19 dX5_restore_26 (by decide) rfl rfl ?_
    refine y_callV (as := [_]) okX2_copyFrom lkX5_243 dX5_restore_29 rfl (by decide) rfl (((y_copyFrom mk1 mk21).more (d' := 2) (by omega))) (by omega) rfl (by simp [Value.category]) (Nat.le_of_ble_eq_true rfl) rfl rfl (cat8 rfl) ?_
    refine x_aload_n dX5_restore_32 rfl ?_
    refine y_getR fkX5_10 dX5_restore_33 (by decide) rfl rfl ?_
    refine y_getI fkX5_210 dX5_restore_36 (by decide) rfl rfl ?_
    exact y_ret dX5_restore_39 rfl (rfl) (hS2.1.2.2.1) (rfl)
  · exact absurd c_4 (by decide)
