theorem y_takeWareN {o : Nat} (hk : IsMk o) {M : Mem} {V : Row} (hR : RM M o V) (hV : WF V) {t : Nat} {x : Int32} (hx : hasB V x = false) (ht : t < nT V) : Y 1 mX2_takeWare 0 (lent 4 [.ref o, .int (nI t), .int x]) [] M none M := by
  have hh := y_has hk hR hV (t := x)
  rw [hx] at hh
  refine x_aload_n dX2_takeWare_0 rfl ?_
  refine x_iload_n dX2_takeWare_1 rfl ?_
  refine y_callV (as := [_]) okX2_has lkX2_79 dX2_takeWare_2 rfl (hk.1 0 (by decide)) (hk.2 0 (by decide)) (y_hasT hk hR hV ht) (by omega) rfl (by simp [Value.category]) (Nat.le_of_ble_eq_true rfl) rfl rfl (cat8 rfl) ?_
  refine x_if_eq 28 dX2_takeWare_5 (by decide) (fun c_5 => ?_) (fun c_5 => ?_)
  · exact absurd c_5 (by decide)
  · refine x_aload_n dX2_takeWare_8 rfl ?_
    refine x_iload_n dX2_takeWare_9 rfl ?_
    refine y_callV (as := [_]) okX2_has lkX2_79 dX2_takeWare_10 rfl (hk.1 0 (by decide)) (hk.2 0 (by decide)) (hh) (by omega) rfl (by simp [Value.category]) (Nat.le_of_ble_eq_true rfl) rfl rfl (cat8 rfl) ?_
    refine x_if_eq 28 dX2_takeWare_13 (by decide) (fun c_13 => ?_) (fun c_13 => ?_)
    · exact y_vret dX2_takeWare_28 rfl (rfl)
    · exact absurd rfl c_13
theorem y_barterHand {o : Nat} (hk : IsMk o) {M : Mem} {V : Row} (hR : RM M o V) (hV : WF V) {a b : Nat} (ha : a < nT V) (hb : b < nT V) : ∃ M' : Mem, Y 5 mX2_barterByHand 0 (lent 4 [.ref o, .int (nI a), .int (nI b)]) [] M (some (.int (bartR V a b))) M' ∧ RM M' o (bartV V a b) ∧ FrO o M M' := by
  have hR0 := hR
  obtain ⟨⟨r7, r8, r9, r10, r11, r12, r13, r14, r15, r2⟩, rk, rt⟩ := hR0
  obtain ⟨hn1, hn2⟩ := WF_n hV
  have h7a := b6 hV ha
  have h7b := b6 hV hb
  by_cases hz : rsn V a b = 0
  · have e1 : kwM M o (o + 8) b = nI (kd V b) := by rw [kw_8 h7b, (rt b hb).2.2.1]; exact kd_nI hV hb
    have e2 : kwM M o (o + 9) b = V (25 + 5 * b) := by rw [kw_9 h7b, (rt b hb).2.2.2.1]
    have hR1 := RM_kw hR
    have s1 := y_takeWare hk hR1 hV ha hb (kd_lt hV hb) e1
    rw [e2] at s1
    have hR2 := RM_tw (a := V (25 + 5 * b)) hR1 hV ha (kd_lt hV hb)
    have hV2 := WF_gets (a := V (25 + 5 * b)) hV ha (kd_lt hV hb) (hV.2.1 b hb).2.2.2
    have e3 : twM (kwM M o) o a (kd V b) (V (25 + 5 * b)) (o + 8) a = nI (kd V a) := by rw [tw_ne (by omega), kw_8 h7a, (rt a ha).2.2.1]; exact kd_nI hV ha
    have e4 : twM (kwM M o) o a (kd V b) (V (25 + 5 * b)) (o + 9) a = V (25 + 5 * a) := by rw [tw_ne (by omega), kw_9 h7a, (rt a ha).2.2.2.1]
    have s2 := y_takeWare hk hR2 hV2 (by rw [nT_gets]; exact hb) (by rw [nT_gets]; exact ha) (kd_lt hV ha) e3
    rw [e4] at s2
    refine ⟨twM (twM (kwM M o) o a (kd V b) (V (25 + 5 * b))) o b (kd V a) (V (25 + 5 * a)), ?_, ?_, (FrO.kw.tr FrO.tw).tr FrO.tw⟩
    · skip
      refine x_aload_n dX2_barterByHand_0 rfl ?_
      refine x_iload_n dX2_barterByHand_1 rfl ?_
      refine x_iload_n dX2_barterByHand_2 rfl ?_
      refine y_callV (as := [_, _]) okX2_refusal lkX2_110 dX2_barterByHand_3 rfl (hk.1 0 (by decide)) (hk.2 0 (by decide)) (y_refusal hk hR hV ha hb) (by omega) rfl (by simp [Value.category]) (Nat.le_of_ble_eq_true rfl) rfl rfl (cat8 rfl) ?_
      refine x_istore_n dX2_barterByHand_6 (by decide) rfl ?_
      refine x_iload_n dX2_barterByHand_7 rfl ?_
      refine x_if_eq 23 dX2_barterByHand_8 (by decide) (fun c_8 => ?_) (fun c_8 => ?_)
      · refine x_aload_n dX2_barterByHand_23 rfl ?_
        refine y_callV0 okX2_keepWares lkX2_113 dX2_barterByHand_24 (hk.1 0 (by decide)) (hk.2 0 (by decide)) (y_keepWares hk) (by omega) (Nat.le_of_ble_eq_true rfl) rfl rfl (cat8 rfl) ?_
        refine x_aload_n dX2_barterByHand_27 rfl ?_
        refine x_iload_n dX2_barterByHand_28 rfl ?_
        refine x_iload_n dX2_barterByHand_29 rfl ?_
        refine y_callV (as := [_, _]) okX2_takeWare lkX2_116 dX2_barterByHand_30 rfl (hk.1 0 (by decide)) (hk.2 0 (by decide)) (s1) (by omega) rfl (by simp [Value.category]) (Nat.le_of_ble_eq_true rfl) rfl rfl (cat8 rfl) ?_
        refine x_aload_n dX2_barterByHand_33 rfl ?_
        refine x_iload_n dX2_barterByHand_34 rfl ?_
        refine x_iload_n dX2_barterByHand_35 rfl ?_
        refine y_callV (as := [_, _]) okX2_takeWare lkX2_116 dX2_barterByHand_36 rfl (hk.1 0 (by decide)) (hk.2 0 (by decide)) (s2) (by omega) rfl (by simp [Value.category]) (Nat.le_of_ble_eq_true rfl) rfl rfl (cat8 rfl) ?_
        refine x_bipushv (v := 10) dX2_barterByHand_39 (by decide) ?_
        exact y_ret dX2_barterByHand_41 rfl (rfl) (by simp [bartR, hz]) (rfl)
      · exact absurd hz c_8
    · simp only [bartV, if_pos hz]
      exact RM_tw hR2 hV2 (by rw [nT_gets]; exact hb) (kd_lt hV ha)
  · refine ⟨inc M o 15, ?_, by simp only [bartV, if_neg hz]; exact RM_h6 hR hV, FrO.up (by omega)⟩
    skip
    refine x_aload_n dX2_barterByHand_0 rfl ?_
    refine x_iload_n dX2_barterByHand_1 rfl ?_
    refine x_iload_n dX2_barterByHand_2 rfl ?_
    refine y_callV (as := [_, _]) okX2_refusal lkX2_110 dX2_barterByHand_3 rfl (hk.1 0 (by decide)) (hk.2 0 (by decide)) (y_refusal hk hR hV ha hb) (by omega) rfl (by simp [Value.category]) (Nat.le_of_ble_eq_true rfl) rfl rfl (cat8 rfl) ?_
    refine x_istore_n dX2_barterByHand_6 (by decide) rfl ?_
    refine x_iload_n dX2_barterByHand_7 rfl ?_
    refine x_if_eq 23 dX2_barterByHand_8 (by decide) (fun c_8 => ?_) (fun c_8 => ?_)
    · exact absurd c_8 hz
    · refine x_aload_n dX2_barterByHand_11 rfl ?_
      refine x_dup_r dX2_barterByHand_12 ?_
      refine y_getI fkX2_76 dX2_barterByHand_13 (hk.1 0 (by decide)) (hk.2 0 (by decide)) rfl ?_
      refine x_iconstv (v := 1) dX2_barterByHand_16 (by decide) ?_
      refine x_iadd dX2_barterByHand_17 ?_
      refine y_putI fkX2_76 dX2_barterByHand_18 (hk.1 0 (by decide)) (hk.2 0 (by decide)) rfl rfl rfl rfl ?_
      refine x_iload_n dX2_barterByHand_21 rfl ?_
      exact y_ret dX2_barterByHand_22 rfl (rfl) (by simp [bartR, hz]) (rfl)
