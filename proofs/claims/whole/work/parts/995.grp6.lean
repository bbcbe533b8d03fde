def stC (s : Option (Int32 × Nat)) (M : Mem) : Prop := match s with
  | none => M 0 9 = -1
  | some x => M 0 8 = x.1 ∧ M 0 9 = nI x.2
def stR (s : Option (Int32 × Nat)) (M : Mem) : Prop := match s with
  | none => M 84 8 = -4 ∧ M 84 9 = -4
  | some x => M 84 8 = x.1 ∧ M 84 9 = nI x.2
theorem y_dg_skip {M M9 : Mem} {P : Row} {n : Nat} (hP : Pad P n) (hM : PadC M P n) (h9 : M 0 9 = -1) {j : Nat} (hj : j < n) (hd : 48 ≤ P j ∧ P j ≤ 54) {bf : Int32} {r : Option Value} (hk : ∀ l3 : Option Value, Y 21 mX5_days 41 [some (.ref 0), some (.int bf), some (.int (nI (j + 1))), l3] [] M r M9) {l3 : Option Value} : Y 21 mX5_days 41 [some (.ref 0), some (.int bf), some (.int (nI j)), l3] [] M r M9 := by
  have hn60 := hP.1
  obtain ⟨d1, d2, d3⟩ := dig7_ne hd
  have hlt := nI_ge (a := j) (b := n) hj (by omega)
  have hs := y_signAt hP hM (j := j) (by omega)
  rw [show chF P n j = P j from if_pos hj] at hs
  skip
  refine x_iload_n dX5_days_41 rfl ?_
  refine x_aload_n dX5_days_42 rfl ?_
  refine y_getR fkX5_32 dX5_days_43 (by decide) rfl rfl ?_
  refine y_getI fkX5_114 dX5_days_46 (by decide) rfl rfl ?_
  rw [hM.1]
  refine x_icmp_ge 121 dX5_days_49 (by decide) (fun c_49 => ?_) (fun c_49 => ?_)
  · exact absurd c_49 hlt
  · refine x_aload_n dX5_days_52 rfl ?_
    refine y_getI fkX5_50 dX5_days_53 (by decide) rfl rfl ?_
    rw [h9]
    refine x_iconstv (v := -1) dX5_days_56 (by decide) ?_
    refine x_icmp_ne 121 dX5_days_57 (by decide) (fun c_57 => ?_) (fun c_57 => ?_)
    · exact absurd rfl c_57
    · refine x_aload_n dX5_days_60 rfl ?_
      refine y_getR fkX5_32 dX5_days_61 (by decide) rfl rfl ?_
      refine x_iload_n dX5_days_64 rfl ?_
      refine y_callV (as := [_]) okX3_signAt lkX5_130 dX5_days_65 rfl (by decide) rfl ((hs.more (d' := 20) (by omega))) (by omega) rfl (by simp [Value.category]) (Nat.le_of_ble_eq_true rfl) rfl rfl (cat8 rfl) ?_
      refine x_istore_n dX5_days_68 (by decide) rfl ?_
      refine x_iload_n dX5_days_69 rfl ?_
      refine x_bipushv (v := 99) dX5_days_70 (by decide) ?_
      refine x_icmp_ne 87 dX5_days_72 (by decide) (fun c_72 => ?_) (fun c_72 => ?_)
      · refine x_iload_n dX5_days_87 rfl ?_
        refine x_bipushv (v := 100) dX5_days_88 (by decide) ?_
        refine x_icmp_ne 104 dX5_days_90 (by decide) (fun c_90 => ?_) (fun c_90 => ?_)
        · refine x_iload_n dX5_days_104 rfl ?_
          refine x_bipushv (v := 120) dX5_days_105 (by decide) ?_
          refine x_icmp_ne 115 dX5_days_107 (by decide) (fun c_107 => ?_) (fun c_107 => ?_)
          · refine x_iincv (v := 1) dX5_days_115 rfl (by decide) rfl (by decide) ?_
            refine x_goto 41 dX5_days_118 (by decide) ?_
            rw [nI_1]
            exact hk _
          · exact absurd c_107 d3
        · exact absurd c_90 d2
      · exact absurd c_72 d1
theorem y_dy_end {M : Mem} {V : Row} (hR : RM M 1 V) (hV : WF V) {bf : Int32} {l2 l3 : Option Value} : Y 21 mX5_days 121 [some (.ref 0), some (.int bf), l2, l3] [] M (some (.int (V 2 - bf))) (updM M 73 0 0) := by
  have hR3 : RM (updM M 73 0 0) 1 V := RM_congr (fun c a b => updM_ne (by omega)) hR
  have hnm2 := y_needsMet mk1 hR3 hV
  skip
  refine x_aload_n dX5_days_121 rfl ?_
  refine y_getR fkX5_32 dX5_days_122 (by decide) rfl rfl ?_
  refine x_iconstv (v := 0) dX5_days_125 (by decide) ?_
  refine y_putI fkX5_114 dX5_days_126 (by decide) rfl rfl rfl rfl rfl ?_
  refine x_aload_n dX5_days_129 rfl ?_
  refine y_getR fkX5_10 dX5_days_130 (by decide) rfl rfl ?_
  refine y_callV0 okX2_needsMet lkX5_141 dX5_days_133 (by decide) rfl ((hnm2.more (d' := 20) (by omega))) (by omega) (Nat.le_of_ble_eq_true rfl) rfl rfl (cat8 rfl) ?_
  refine x_iload_n dX5_days_136 rfl ?_
  refine x_isub dX5_days_137 ?_
  exact y_ret dX5_days_138 rfl (rfl) (rfl) (rfl)
theorem y_dbp {M : Mem} {V : Row} (hR : RM M 1 V) (hG : Good V) {P : Row} {n : Nat} (hP : Pad P n) (hM : PadC M P n) {i : Nat} (hi : i + 2 < n) : ∃ M' : Mem, Y 7 mX5_doBarterOfPad 0 (lent 5 [.ref 0, .int (nI i)]) [] M none M' ∧ RM M' 1 (dyV V (P (i + 1) - 48) (P (i + 2) - 48)) ∧ (dyO V (P (i + 1) - 48) (P (i + 2) - 48) = 10 → M' 0 = M 0) ∧ (¬ dyO V (P (i + 1) - 48) (P (i + 2) - 48) = 10 → M' 0 8 = dyO V (P (i + 1) - 48) (P (i + 2) - 48) ∧ M' 0 9 = nI i ∧ M' 0 7 = M 0 7) ∧ ∀ c, 10 < c → M' c = M c := by
  have hn60 := hP.1
  have hV := hG.1
  have g1 := y_digitAt hP hM (j := i + 1) (by omega)
  rw [show chF P n (i + 1) = P (i + 1) from if_pos (by omega)] at g1
  have g2 := y_digitAt hP hM (j := i + 2) (by omega)
  rw [show chF P n (i + 2) = P (i + 2) from if_pos (by omega)] at g2
  have hb := y_hasBoth mk1 hR hV (a := P (i + 1) - 48) (b := P (i + 2) - 48)
  generalize hx : P (i + 1) - 48 = x at *
  generalize hy : P (i + 2) - 48 = y at *
  cases hbb : bothB V x y with
  | true =>
    rw [hbb] at hb
    obtain ⟨a, b, ha, hb2, rfl, rfl⟩ := both_of hV hbb
    obtain ⟨M1, s1, r1, f1⟩ := y_barterHand mk1 hR hV ha hb2
    have eo : dyO V (nI a) (nI b) = bartR V a b := by
      unfold dyO
      rw [if_pos hbb, nI_clamp (n31 hV (Nat.le_of_lt ha)), nI_clamp (n31 hV (Nat.le_of_lt hb2))]
    have ev : dyV V (nI a) (nI b) = bartV V a b := by
      unfold dyV
      rw [if_pos hbb, nI_clamp (n31 hV (Nat.le_of_lt ha)), nI_clamp (n31 hV (Nat.le_of_lt hb2))]
    rw [eo, ev]
    by_cases h10 : bartR V a b = 10
    · rw [h10] at s1
      refine ⟨M1, ?_, r1, fun _ => f1 0 (by omega), fun q => absurd h10 q, fun c hc => f1 c (by omega)⟩
      skip
      refine x_aload_n dX5_doBarterOfPad_0 rfl ?_
      refine y_getR fkX5_32 dX5_doBarterOfPad_1 (by decide) rfl rfl ?_
      refine x_iload_n dX5_doBarterOfPad_4 rfl ?_
      refine x_iconstv (v := 1) dX5_doBarterOfPad_5 (by decide) ?_
      refine x_iadd dX5_doBarterOfPad_6 ?_
      rw [nI_1]
      refine y_callV (as := [_]) okX3_digitAt lkX5_134 dX5_doBarterOfPad_7 rfl (by decide) rfl ((g1.more (d' := 6) (by omega))) (by omega) rfl (by simp [Value.category]) (Nat.le_of_ble_eq_true rfl) rfl rfl (cat8 rfl) ?_
      refine x_istore_n dX5_doBarterOfPad_10 (by decide) rfl ?_
      refine x_aload_n dX5_doBarterOfPad_11 rfl ?_
      refine y_getR fkX5_32 dX5_doBarterOfPad_12 (by decide) rfl rfl ?_
      refine x_iload_n dX5_doBarterOfPad_15 rfl ?_
      refine x_iconstv (v := 2) dX5_doBarterOfPad_16 (by decide) ?_
      refine x_iadd dX5_doBarterOfPad_17 ?_
      rw [show nI i + 2 = nI (i + 2) from nI_add i 2]
      refine y_callV (as := [_]) okX3_digitAt lkX5_134 dX5_doBarterOfPad_18 rfl (by decide) rfl ((g2.more (d' := 6) (by omega))) (by omega) rfl (by simp [Value.category]) (Nat.le_of_ble_eq_true rfl) rfl rfl (cat8 rfl) ?_
      refine x_istore_n dX5_doBarterOfPad_21 (by decide) rfl ?_
      refine x_aload_n dX5_doBarterOfPad_22 rfl ?_
      refine y_getR fkX5_10 dX5_doBarterOfPad_23 (by decide) rfl rfl ?_
      refine x_iload_n dX5_doBarterOfPad_26 rfl ?_
      refine x_iload_n dX5_doBarterOfPad_27 rfl ?_
      refine y_callV (as := [_, _]) okX2_hasBoth lkX5_98 dX5_doBarterOfPad_28 rfl (by decide) rfl ((hb.more (d' := 6) (by omega))) (by omega) rfl (by simp [Value.category]) (Nat.le_of_ble_eq_true rfl) rfl rfl (cat8 rfl) ?_
      refine x_if_eq 46 dX5_doBarterOfPad_31 (by decide) (fun c_31 => ?_) (fun c_31 => ?_)
      · exact absurd c_31 (by decide)
      · refine x_aload_n dX5_doBarterOfPad_34 rfl ?_
        refine y_getR fkX5_10 dX5_doBarterOfPad_35 (by decide) rfl rfl ?_
        refine x_iload_n dX5_doBarterOfPad_38 rfl ?_
        refine x_iload_n dX5_doBarterOfPad_39 rfl ?_
        refine y_callV (as := [_, _]) okX2_barterByHand lkX5_102 dX5_doBarterOfPad_40 rfl (by decide) rfl ((s1.more (d' := 6) (by omega))) (by omega) rfl (by simp [Value.category]) (Nat.le_of_ble_eq_true rfl) rfl rfl (cat8 rfl) ?_
        refine x_goto 47 dX5_doBarterOfPad_43 (by decide) ?_
        refine x_istore dX5_doBarterOfPad_47 (by decide) rfl ?_
        refine x_iload dX5_doBarterOfPad_49 rfl ?_
        refine x_bipushv (v := 10) dX5_doBarterOfPad_51 (by decide) ?_
        refine x_icmp_eq 67 dX5_doBarterOfPad_53 (by decide) (fun c_53 => ?_) (fun c_53 => ?_)
        · exact y_vret dX5_doBarterOfPad_67 rfl (rfl)
        · exact absurd rfl c_53
    · refine ⟨updM (updM M1 0 8 (bartR V a b)) 0 9 (nI i), ?_, RM_congr (fun c a b => by rw [updM_ne (by omega), updM_ne (by omega)]) r1, fun q => absurd q h10, fun _ => ⟨by simp [updM], by simp [updM], by rw [updM_at, if_neg (by omega), updM_at, if_neg (by omega), f1 0 (by omega)]⟩, fun c hc => by rw [updM_ne (by omega), updM_ne (by omega), f1 c (by omega)]⟩
      skip
      refine x_aload_n dX5_doBarterOfPad_0 rfl ?_
      refine y_getR fkX5_32 dX5_doBarterOfPad_1 (by decide) rfl rfl ?_
      refine x_iload_n dX5_doBarterOfPad_4 rfl ?_
      refine x_iconstv (v := 1) dX5_doBarterOfPad_5 (by decide) ?_
      refine x_iadd dX5_doBarterOfPad_6 ?_
      rw [nI_1]
      refine y_callV (as := [_]) okX3_digitAt lkX5_134 dX5_doBarterOfPad_7 rfl (by decide) rfl ((g1.more (d' := 6) (by omega))) (by omega) rfl (by simp [Value.category]) (Nat.le_of_ble_eq_true rfl) rfl rfl (cat8 rfl) ?_
      refine x_istore_n dX5_doBarterOfPad_10 (by decide) rfl ?_
      refine x_aload_n dX5_doBarterOfPad_11 rfl ?_
      refine y_getR fkX5_32 dX5_doBarterOfPad_12 (by decide) rfl rfl ?_
      refine x_iload_n dX5_doBarterOfPad_15 rfl ?_
      refine x_iconstv (v := 2) dX5_doBarterOfPad_16 (by decide) ?_
      refine x_iadd dX5_doBarterOfPad_17 ?_
      rw [show nI i + 2 = nI (i + 2) from nI_add i 2]
      refine y_callV (as := [_]) okX3_digitAt lkX5_134 dX5_doBarterOfPad_18 rfl (by decide) rfl ((g2.more (d' := 6) (by omega))) (by omega) rfl (by simp [Value.category]) (Nat.le_of_ble_eq_true rfl) rfl rfl (cat8 rfl) ?_
      refine x_istore_n dX5_doBarterOfPad_21 (by decide) rfl ?_
      refine x_aload_n dX5_doBarterOfPad_22 rfl ?_
      refine y_getR fkX5_10 dX5_doBarterOfPad_23 (by decide) rfl rfl ?_
      refine x_iload_n dX5_doBarterOfPad_26 rfl ?_
      refine x_iload_n dX5_doBarterOfPad_27 rfl ?_
      refine y_callV (as := [_, _]) okX2_hasBoth lkX5_98 dX5_doBarterOfPad_28 rfl (by decide) rfl ((hb.more (d' := 6) (by omega))) (by omega) rfl (by simp [Value.category]) (Nat.le_of_ble_eq_true rfl) rfl rfl (cat8 rfl) ?_
      refine x_if_eq 46 dX5_doBarterOfPad_31 (by decide) (fun c_31 => ?_) (fun c_31 => ?_)
      · exact absurd c_31 (by decide)
      · refine x_aload_n dX5_doBarterOfPad_34 rfl ?_
        refine y_getR fkX5_10 dX5_doBarterOfPad_35 (by decide) rfl rfl ?_
        refine x_iload_n dX5_doBarterOfPad_38 rfl ?_
        refine x_iload_n dX5_doBarterOfPad_39 rfl ?_
        refine y_callV (as := [_, _]) okX2_barterByHand lkX5_102 dX5_doBarterOfPad_40 rfl (by decide) rfl ((s1.more (d' := 6) (by omega))) (by omega) rfl (by simp [Value.category]) (Nat.le_of_ble_eq_true rfl) rfl rfl (cat8 rfl) ?_
        refine x_goto 47 dX5_doBarterOfPad_43 (by decide) ?_
        refine x_istore dX5_doBarterOfPad_47 (by decide) rfl ?_
        refine x_iload dX5_doBarterOfPad_49 rfl ?_
        refine x_bipushv (v := 10) dX5_doBarterOfPad_51 (by decide) ?_
        refine x_icmp_eq 67 dX5_doBarterOfPad_53 (by decide) (fun c_53 => ?_) (fun c_53 => ?_)
        · exact absurd c_53 h10
        · refine x_aload_n dX5_doBarterOfPad_56 rfl ?_
          refine x_iload dX5_doBarterOfPad_57 rfl ?_
          refine y_putI fkX5_147 dX5_doBarterOfPad_59 (by decide) rfl rfl rfl rfl rfl ?_
          refine x_aload_n dX5_doBarterOfPad_62 rfl ?_
          refine x_iload_n dX5_doBarterOfPad_63 rfl ?_
          refine y_putI fkX5_50 dX5_doBarterOfPad_64 (by decide) rfl rfl rfl rfl rfl ?_
          exact y_vret dX5_doBarterOfPad_67 rfl (rfl)
  | false =>
    rw [hbb] at hb
    have eo : dyO V x y = -1 := by
      unfold dyO
      rw [if_neg (by rw [hbb]; decide)]
    have ev : dyV V x y = V := by
      unfold dyV
      rw [if_neg (by rw [hbb]; decide)]
    rw [eo, ev]
    refine ⟨updM (updM M 0 8 (-1)) 0 9 (nI i), ?_, RM_congr (fun c a b => by rw [updM_ne (by omega), updM_ne (by omega)]) hR, fun q => absurd q (by decide), fun _ => ⟨by simp [updM], by simp [updM], by rw [updM_at, if_neg (by omega), updM_at, if_neg (by omega)]⟩, fun c hc => by rw [updM_ne (by omega), updM_ne (by omega)]⟩
    skip
    refine x_aload_n dX5_doBarterOfPad_0 rfl ?_
    refine y_getR fkX5_32 dX5_doBarterOfPad_1 (by decide) rfl rfl ?_
    refine x_iload_n dX5_doBarterOfPad_4 rfl ?_
    refine x_iconstv (v := 1) dX5_doBarterOfPad_5 (by decide) ?_
    refine x_iadd dX5_doBarterOfPad_6 ?_
    rw [nI_1]
    refine y_callV (as := [_]) okX3_digitAt lkX5_134 dX5_doBarterOfPad_7 rfl (by decide) rfl ((g1.more (d' := 6) (by omega))) (by omega) rfl (by simp [Value.category]) (Nat.le_of_ble_eq_true rfl) rfl rfl (cat8 rfl) ?_
    refine x_istore_n dX5_doBarterOfPad_10 (by decide) rfl ?_
    refine x_aload_n dX5_doBarterOfPad_11 rfl ?_
    refine y_getR fkX5_32 dX5_doBarterOfPad_12 (by decide) rfl rfl ?_
    refine x_iload_n dX5_doBarterOfPad_15 rfl ?_
    refine x_iconstv (v := 2) dX5_doBarterOfPad_16 (by decide) ?_
    refine x_iadd dX5_doBarterOfPad_17 ?_
    rw [show nI i + 2 = nI (i + 2) from nI_add i 2]
    refine y_callV (as := [_]) okX3_digitAt lkX5_134 dX5_doBarterOfPad_18 rfl (by decide) rfl ((g2.more (d' := 6) (by omega))) (by omega) rfl (by simp [Value.category]) (Nat.le_of_ble_eq_true rfl) rfl rfl (cat8 rfl) ?_
    refine x_istore_n dX5_doBarterOfPad_21 (by decide) rfl ?_
    refine x_aload_n dX5_doBarterOfPad_22 rfl ?_
    refine y_getR fkX5_10 dX5_doBarterOfPad_23 (by decide) rfl rfl ?_
    refine x_iload_n dX5_doBarterOfPad_26 rfl ?_
    refine x_iload_n dX5_doBarterOfPad_27 rfl ?_
    refine y_callV (as := [_, _]) okX2_hasBoth lkX5_98 dX5_doBarterOfPad_28 rfl (by decide) rfl ((hb.more (d' := 6) (by omega))) (by omega) rfl (by simp [Value.category]) (Nat.le_of_ble_eq_true rfl) rfl rfl (cat8 rfl) ?_
    refine x_if_eq 46 dX5_doBarterOfPad_31 (by decide) (fun c_31 => ?_) (fun c_31 => ?_)
    · refine x_iconstv (v := -1) dX5_doBarterOfPad_46 (by decide) ?_
      refine x_istore dX5_doBarterOfPad_47 (by decide) rfl ?_
      refine x_iload dX5_doBarterOfPad_49 rfl ?_
      refine x_bipushv (v := 10) dX5_doBarterOfPad_51 (by decide) ?_
      refine x_icmp_eq 67 dX5_doBarterOfPad_53 (by decide) (fun c_53 => ?_) (fun c_53 => ?_)
      · exact absurd c_53 (by decide)
      · refine x_aload_n dX5_doBarterOfPad_56 rfl ?_
        refine x_iload dX5_doBarterOfPad_57 rfl ?_
        refine y_putI fkX5_147 dX5_doBarterOfPad_59 (by decide) rfl rfl rfl rfl rfl ?_
        refine x_aload_n dX5_doBarterOfPad_62 rfl ?_
        refine x_iload_n dX5_doBarterOfPad_63 rfl ?_
        refine y_putI fkX5_50 dX5_doBarterOfPad_64 (by decide) rfl rfl rfl rfl rfl ?_
        exact y_vret dX5_doBarterOfPad_67 rfl (rfl)
    · exact absurd rfl c_31
theorem y_dy_loop {P : Row} {n : Nat} (hP : Pad P n) {bf : Int32} : ∀ (f i : Nat) (V : Row) (M : Mem) (l3 : Option Value), i ≤ n → n - i < f → fdR P n f i = -4 → RM M 1 V → Good V → PadC M P n → M 0 9 = -1 → ∃ M' : Mem, Y 21 mX5_days 41 [some (.ref 0), some (.int bf), some (.int (nI i)), l3] [] M (some (.int ((dyR P n f i V).1 2 - bf))) M' ∧ RM M' 1 (dyR P n f i V).1 ∧ stC (dyR P n f i V).2 M' ∧ M' 73 0 = 0 ∧ M' 0 7 = M 0 7 ∧ ∀ c, (21 ≤ c ∧ c ≤ 72) ∨ 84 ≤ c → M' c = M c := by
  have hn60 := hP.1
  intro f
  induction f with
  | zero => intro i V M l3 h1 h2; omega
  | succ f ih =>
    intro i V M l3 h1 h2 hf hR hG hM h9
    have hV := hG.1
    rw [dyR]
    by_cases hin : i < n
    · rw [if_pos hin]
      have hlt := nI_ge (a := i) (b := n) hin (by omega)
      have hs := y_signAt hP hM (j := i) (by omega)
      rw [show chF P n i = P i from if_pos hin] at hs
      rcases fd_at hn60 hin hf with ⟨hx, h3, d1, d2, hf3⟩ | ⟨hc, hf1⟩
      · rw [if_pos hx]
        rw [hx] at hs
        obtain ⟨M1, s1, r1, p1, p2, p3⟩ := y_dbp hR hG hP hM h3
        have hM1 : PadC M1 P n := ⟨by rw [p3 73 (by omega)]; exact hM.1, by rw [p3 74 (by omega)]; exact hM.2⟩
        by_cases h10 : dyO V (P (i + 1) - 48) (P (i + 2) - 48) = 10
        · rw [if_pos h10]
          have e0 := p1 h10
          have h91 : M1 0 9 = -1 := by rw [e0]; exact h9
          obtain ⟨M9, s9, q1, q2, qz, q3, q4⟩ := ih (i + 3) _ M1 none (by omega) (by omega) hf3 r1 (Good_dyV hG) hM1 h91
          refine ⟨M9, ?_, q1, q2, qz, by rw [q3, e0], fun c hc => by rw [q4 c hc, p3 c (by omega)]⟩
          have hk3 : ∀ l3 : Option Value, Y 21 mX5_days 41 [some (.ref 0), some (.int bf), some (.int (nI (i + 2 + 1))), l3] [] M1 _ M9 := fun l3 => X.lsw (fun j v hj => by
            match j, hj with
            | 0, hj => exact hj
            | 1, hj => exact hj
            | 2, hj => exact hj
            | 3, hj => cases hj
            | j + 4, hj => cases hj) s9
          have hk2 : ∀ l3 : Option Value, Y 21 mX5_days 41 [some (.ref 0), some (.int bf), some (.int (nI (i + 1 + 1))), l3] [] M1 _ M9 := fun l3 => y_dg_skip hP hM1 h91 (j := i + 2) h3 d2 hk3
          have hk1 : ∀ l3 : Option Value, Y 21 mX5_days 41 [some (.ref 0), some (.int bf), some (.int (nI (i + 1))), l3] [] M1 _ M9 := fun l3 => y_dg_skip hP hM1 h91 (j := i + 1) (by omega) d1 hk2
          skip
          refine x_iload_n dX5_days_41 rfl ?_
          refine x_aload_n dX5_days_42 rfl ?_
          refine y_getR fkX5_32 dX5_days_43 (by decide) rfl rfl ?_
          refine y_getI fkX5_114 dX5_days_46 (by decide) rfl rfl ?_
          rw [hM.1]
          refine x_icmp_ge 121 dX5_days_49 (by decide) (fun c_49 => ?_) (fun c_49 => ?_)
          · exact absurd c_49 hlt
          · refine x_aload_n dX5_days_52 rfl ?_
            refine y_getI fkX5_50 dX5_days_53 (by decide) rfl rfl ?_
            rw [h9]
            refine x_iconstv (v := -1) dX5_days_56 (by decide) ?_
            refine x_icmp_ne 121 dX5_days_57 (by decide) (fun c_57 => ?_) (fun c_57 => ?_)
            · exact absurd rfl c_57
            · refine x_aload_n dX5_days_60 rfl ?_
              refine y_getR fkX5_32 dX5_days_61 (by decide) rfl rfl ?_
              refine x_iload_n dX5_days_64 rfl ?_
              refine y_callV (as := [_]) okX3_signAt lkX5_130 dX5_days_65 rfl (by decide) rfl ((hs.more (d' := 20) (by omega))) (by omega) rfl (by simp [Value.category]) (Nat.le_of_ble_eq_true rfl) rfl rfl (cat8 rfl) ?_
              refine x_istore_n dX5_days_68 (by decide) rfl ?_
              refine x_iload_n dX5_days_69 rfl ?_
              refine x_bipushv (v := 99) dX5_days_70 (by decide) ?_
              refine x_icmp_ne 87 dX5_days_72 (by decide) (fun c_72 => ?_) (fun c_72 => ?_)
              · refine x_iload_n dX5_days_87 rfl ?_
                refine x_bipushv (v := 100) dX5_days_88 (by decide) ?_
                refine x_icmp_ne 104 dX5_days_90 (by decide) (fun c_90 => ?_) (fun c_90 => ?_)
                · refine x_iload_n dX5_days_104 rfl ?_
                  refine x_bipushv (v := 120) dX5_days_105 (by decide) ?_
                  refine x_icmp_ne 115 dX5_days_107 (by decide) (fun c_107 => ?_) (fun c_107 => ?_)
                  · exact absurd rfl c_107
                  · refine x_aload_n dX5_days_110 rfl ?_
                    refine x_iload_n dX5_days_111 rfl ?_
                    refine y_callV (as := [_]) okX5_doBarterOfPad lkX5_144 dX5_days_112 rfl (by decide) rfl ((s1.more (d' := 20) (by omega))) (by omega) rfl (by simp [Value.category]) (Nat.le_of_ble_eq_true rfl) rfl rfl (cat8 rfl) ?_
                    refine x_iincv (v := 1) dX5_days_115 rfl (by decide) rfl (by decide) ?_
                    refine x_goto 41 dX5_days_118 (by decide) ?_
                    rw [nI_1]
                    exact hk1 _
                · exact absurd c_90 (by decide)
              · exact absurd c_72 (by decide)
        · rw [if_neg h10]
          obtain ⟨e8, e9, e7⟩ := p2 h10
          have hne : ¬ nI i = -1 := m1_nI (by omega)
          have hgd := Good_dyV (x := P (i + 1) - 48) (y := P (i + 2) - 48) hG
          refine ⟨updM M1 73 0 0, ?_, RM_congr (fun c a b => updM_ne (by omega)) r1, ⟨by rw [updM_ne (by decide)]; exact e8, by rw [updM_ne (by decide)]; exact e9⟩, by rw [updM_at, if_pos ⟨rfl, rfl⟩], by rw [updM_ne (by decide)]; exact e7, fun c hc => by rw [updM_ne (by omega)]; exact p3 c (by omega)⟩
          have hend : ∀ l3 : Option Value, Y 21 mX5_days 41 [some (.ref 0), some (.int bf), some (.int (nI (i + 1))), l3] [] M1 (some (.int (dyV V (P (i + 1) - 48) (P (i + 2) - 48) 2 - bf))) (updM M1 73 0 0) := by
            intro l3
            skip
            refine x_iload_n dX5_days_41 rfl ?_
            refine x_aload_n dX5_days_42 rfl ?_
            refine y_getR fkX5_32 dX5_days_43 (by decide) rfl rfl ?_
            refine y_getI fkX5_114 dX5_days_46 (by decide) rfl rfl ?_
            rw [hM1.1]
            refine x_icmp_ge 121 dX5_days_49 (by decide) (fun c_49 => ?_) (fun c_49 => ?_)
            · exact y_dy_end r1 hgd.1
            · refine x_aload_n dX5_days_52 rfl ?_
              refine y_getI fkX5_50 dX5_days_53 (by decide) rfl rfl ?_
              rw [e9]
              refine x_iconstv (v := -1) dX5_days_56 (by decide) ?_
              refine x_icmp_ne 121 dX5_days_57 (by decide) (fun c_57 => ?_) (fun c_57 => ?_)
              · exact y_dy_end r1 hgd.1
              · exact absurd c_57 hne
          skip
          refine x_iload_n dX5_days_41 rfl ?_
          refine x_aload_n dX5_days_42 rfl ?_
          refine y_getR fkX5_32 dX5_days_43 (by decide) rfl rfl ?_
          refine y_getI fkX5_114 dX5_days_46 (by decide) rfl rfl ?_
          rw [hM.1]
          refine x_icmp_ge 121 dX5_days_49 (by decide) (fun c_49 => ?_) (fun c_49 => ?_)
          · exact absurd c_49 hlt
          · refine x_aload_n dX5_days_52 rfl ?_
            refine y_getI fkX5_50 dX5_days_53 (by decide) rfl rfl ?_
            rw [h9]
            refine x_iconstv (v := -1) dX5_days_56 (by decide) ?_
            refine x_icmp_ne 121 dX5_days_57 (by decide) (fun c_57 => ?_) (fun c_57 => ?_)
            · exact absurd rfl c_57
            · refine x_aload_n dX5_days_60 rfl ?_
              refine y_getR fkX5_32 dX5_days_61 (by decide) rfl rfl ?_
              refine x_iload_n dX5_days_64 rfl ?_
              refine y_callV (as := [_]) okX3_signAt lkX5_130 dX5_days_65 rfl (by decide) rfl ((hs.more (d' := 20) (by omega))) (by omega) rfl (by simp [Value.category]) (Nat.le_of_ble_eq_true rfl) rfl rfl (cat8 rfl) ?_
              refine x_istore_n dX5_days_68 (by decide) rfl ?_
              refine x_iload_n dX5_days_69 rfl ?_
              refine x_bipushv (v := 99) dX5_days_70 (by decide) ?_
              refine x_icmp_ne 87 dX5_days_72 (by decide) (fun c_72 => ?_) (fun c_72 => ?_)
              · refine x_iload_n dX5_days_87 rfl ?_
                refine x_bipushv (v := 100) dX5_days_88 (by decide) ?_
                refine x_icmp_ne 104 dX5_days_90 (by decide) (fun c_90 => ?_) (fun c_90 => ?_)
                · refine x_iload_n dX5_days_104 rfl ?_
                  refine x_bipushv (v := 120) dX5_days_105 (by decide) ?_
                  refine x_icmp_ne 115 dX5_days_107 (by decide) (fun c_107 => ?_) (fun c_107 => ?_)
                  · exact absurd rfl c_107
                  · refine x_aload_n dX5_days_110 rfl ?_
                    refine x_iload_n dX5_days_111 rfl ?_
                    refine y_callV (as := [_]) okX5_doBarterOfPad lkX5_144 dX5_days_112 rfl (by decide) rfl ((s1.more (d' := 20) (by omega))) (by omega) rfl (by simp [Value.category]) (Nat.le_of_ble_eq_true rfl) rfl rfl (cat8 rfl) ?_
                    refine x_iincv (v := 1) dX5_days_115 rfl (by decide) rfl (by decide) ?_
                    refine x_goto 41 dX5_days_118 (by decide) ?_
                    rw [nI_1]
                    exact hend _
                · exact absurd c_90 (by decide)
              · exact absurd c_72 (by decide)
      · have hnx : ¬ P i = 120 := by
          rcases hc with q | q <;> (rw [q]; decide)
        rw [if_neg hnx]
        by_cases h99 : P i = 99
        · rw [if_pos h99]
          rw [h99] at hs
          obtain ⟨M1, s1, r1, f1⟩ := y_callMarket mk1 hR hV (by decide)
          have f0 : M1 0 = M 0 := f1 0 (by omega) (by omega) (by omega) (by omega) (by omega)
          obtain ⟨M9, s9, q1, q2, qz, q3, q4⟩ := ih (i + 1) _ M1 (some (.int 99)) (by omega) (by omega) hf1 r1 (Good_callW hG) ⟨by rw [f1 73 (by omega) (by omega) (by omega) (by omega) (by omega)]; exact hM.1, by rw [f1 74 (by omega) (by omega) (by omega) (by omega) (by omega)]; exact hM.2⟩ (by rw [f0]; exact h9)
          refine ⟨M9, ?_, q1, q2, qz, by rw [q3, f0], fun c hc => by rw [q4 c hc, f1 c (by omega) (by omega) (by omega) (by omega) (by omega)]⟩
          skip
          refine x_iload_n dX5_days_41 rfl ?_
          refine x_aload_n dX5_days_42 rfl ?_
          refine y_getR fkX5_32 dX5_days_43 (by decide) rfl rfl ?_
          refine y_getI fkX5_114 dX5_days_46 (by decide) rfl rfl ?_
          rw [hM.1]
          refine x_icmp_ge 121 dX5_days_49 (by decide) (fun c_49 => ?_) (fun c_49 => ?_)
          · exact absurd c_49 hlt
          · refine x_aload_n dX5_days_52 rfl ?_
            refine y_getI fkX5_50 dX5_days_53 (by decide) rfl rfl ?_
            rw [h9]
            refine x_iconstv (v := -1) dX5_days_56 (by decide) ?_
            refine x_icmp_ne 121 dX5_days_57 (by decide) (fun c_57 => ?_) (fun c_57 => ?_)
            · exact absurd rfl c_57
            · refine x_aload_n dX5_days_60 rfl ?_
              refine y_getR fkX5_32 dX5_days_61 (by decide) rfl rfl ?_
              refine x_iload_n dX5_days_64 rfl ?_
              refine y_callV (as := [_]) okX3_signAt lkX5_130 dX5_days_65 rfl (by decide) rfl ((hs.more (d' := 20) (by omega))) (by omega) rfl (by simp [Value.category]) (Nat.le_of_ble_eq_true rfl) rfl rfl (cat8 rfl) ?_
              refine x_istore_n dX5_days_68 (by decide) rfl ?_
              refine x_iload_n dX5_days_69 rfl ?_
              refine x_bipushv (v := 99) dX5_days_70 (by decide) ?_
              refine x_icmp_ne 87 dX5_days_72 (by decide) (fun c_72 => ?_) (fun c_72 => ?_)
              · exact absurd rfl c_72
              · refine x_aload_n dX5_days_75 rfl ?_
                refine x_aload_n dX5_days_76 rfl ?_
                refine y_getR fkX5_10 dX5_days_77 (by decide) rfl rfl ?_
                refine y_callV (as := [_]) okX5_callMarket lkX5_106 dX5_days_80 rfl (by decide) rfl ((s1.more (d' := 20) (by omega))) (by omega) rfl (by simp [Value.category]) (Nat.le_of_ble_eq_true rfl) rfl rfl (cat8 rfl) ?_
                refine x_pop_i dX5_days_83 ?_
                refine x_goto 115 dX5_days_84 (by decide) ?_
                refine x_iincv (v := 1) dX5_days_115 rfl (by decide) rfl (by decide) ?_
                refine x_goto 41 dX5_days_118 (by decide) ?_
                rw [nI_1]
                exact s9
        · rw [if_neg h99]
          have h100 : P i = 100 := hc.resolve_left h99
          rw [h100] at hs
          obtain ⟨M1, s1, r1, f1⟩ := y_passDay mk1 hR hG
          have f0 : M1 0 = M 0 := f1 0 (by omega)
          obtain ⟨M9, s9, q1, q2, qz, q3, q4⟩ := ih (i + 1) _ M1 (some (.int 100)) (by omega) (by omega) hf1 r1 (Good_pass hG) ⟨by rw [f1 73 (by omega)]; exact hM.1, by rw [f1 74 (by omega)]; exact hM.2⟩ (by rw [f0]; exact h9)
          refine ⟨M9, ?_, q1, q2, qz, by rw [q3, f0], fun c hc => by rw [q4 c hc, f1 c (by omega)]⟩
          skip
          refine x_iload_n dX5_days_41 rfl ?_
          refine x_aload_n dX5_days_42 rfl ?_
          refine y_getR fkX5_32 dX5_days_43 (by decide) rfl rfl ?_
          refine y_getI fkX5_114 dX5_days_46 (by decide) rfl rfl ?_
          rw [hM.1]
          refine x_icmp_ge 121 dX5_days_49 (by decide) (fun c_49 => ?_) (fun c_49 => ?_)
          · exact absurd c_49 hlt
          · refine x_aload_n dX5_days_52 rfl ?_
            refine y_getI fkX5_50 dX5_days_53 (by decide) rfl rfl ?_
            rw [h9]
            refine x_iconstv (v := -1) dX5_days_56 (by decide) ?_
            refine x_icmp_ne 121 dX5_days_57 (by decide) (fun c_57 => ?_) (fun c_57 => ?_)
            · exact absurd rfl c_57
            · refine x_aload_n dX5_days_60 rfl ?_
              refine y_getR fkX5_32 dX5_days_61 (by decide) rfl rfl ?_
              refine x_iload_n dX5_days_64 rfl ?_
              refine y_callV (as := [_]) okX3_signAt lkX5_130 dX5_days_65 rfl (by decide) rfl ((hs.more (d' := 20) (by omega))) (by omega) rfl (by simp [Value.category]) (Nat.le_of_ble_eq_true rfl) rfl rfl (cat8 rfl) ?_
              refine x_istore_n dX5_days_68 (by decide) rfl ?_
              refine x_iload_n dX5_days_69 rfl ?_
              refine x_bipushv (v := 99) dX5_days_70 (by decide) ?_
              refine x_icmp_ne 87 dX5_days_72 (by decide) (fun c_72 => ?_) (fun c_72 => ?_)
              · refine x_iload_n dX5_days_87 rfl ?_
                refine x_bipushv (v := 100) dX5_days_88 (by decide) ?_
                refine x_icmp_ne 104 dX5_days_90 (by decide) (fun c_90 => ?_) (fun c_90 => ?_)
                · exact absurd rfl c_90
                · refine x_aload_n dX5_days_93 rfl ?_
                  refine y_getR fkX5_10 dX5_days_94 (by decide) rfl rfl ?_
                  refine y_callV0 okX2_passDay lkX5_110 dX5_days_97 (by decide) rfl ((s1.more (d' := 20) (by omega))) (by omega) (Nat.le_of_ble_eq_true rfl) rfl rfl (cat8 rfl) ?_
                  refine x_pop_i dX5_days_100 ?_
                  refine x_goto 115 dX5_days_101 (by decide) ?_
                  refine x_iincv (v := 1) dX5_days_115 rfl (by decide) rfl (by decide) ?_
                  refine x_goto 41 dX5_days_118 (by decide) ?_
                  rw [nI_1]
                  exact s9
              · exact absurd c_72 (by decide)
    · rw [if_neg hin]
      have hle := nI_le (a := n) (b := i) (by omega) (by omega)
      refine ⟨updM M 73 0 0, ?_, RM_congr (fun c a b => updM_ne (by omega)) hR, (by rw [show stC none (updM M 73 0 0) = (updM M 73 0 0 0 9 = -1) from rfl, updM_ne (by decide)]; exact h9), by rw [updM_at, if_pos ⟨rfl, rfl⟩], by rw [updM_ne (by decide)], fun c hc => by rw [updM_ne (by omega)]⟩
      skip
      refine x_iload_n dX5_days_41 rfl ?_
      refine x_aload_n dX5_days_42 rfl ?_
      refine y_getR fkX5_32 dX5_days_43 (by decide) rfl rfl ?_
      refine y_getI fkX5_114 dX5_days_46 (by decide) rfl rfl ?_
      rw [hM.1]
      refine x_icmp_ge 121 dX5_days_49 (by decide) (fun c_49 => ?_) (fun c_49 => ?_)
      · exact y_dy_end hR hV
      · exact absurd hle c_49
theorem y_days0 {M : Mem} {P : Row} {n : Nat} (hP : Pad P n) (hM : PadC M P n) (hf : ¬ fdC P n n 0 0 = -4) : Y 21 mX5_days 0 (lent 4 [.ref 0]) [] M (some (.int (-2))) M := by
  skip
  refine x_aload_n dX5_days_0 rfl ?_
  refine y_getR fkX5_32 dX5_days_1 (by decide) rfl rfl ?_
  refine y_callV0 okX3_faultAsDays lkX5_124 dX5_days_4 (by decide) rfl (((y_fd hP hM).more (d' := 20) (by omega))) (by omega) (Nat.le_of_ble_eq_true rfl) rfl rfl (cat8 rfl) ?_
  refine x_bipushv (v := -4) dX5_days_7 (by decide) ?_
  refine x_icmp_eq 15 dX5_days_9 (by decide) (fun c_9 => ?_) (fun c_9 => ?_)
  · exact absurd c_9 hf
  · refine x_bipushv (v := -2) dX5_days_12 (by decide) ?_
    exact y_ret dX5_days_14 rfl (rfl) (rfl) (rfl)
theorem y_days1 {M : Mem} {V : Row} {K : Nat} {h : Nat → Row} (hC : CI M V K h) (hG : Good V) {P : Row} {n : Nat} (hP : Pad P n) (hM : PadC M P n) (hf : fdC P n n 0 0 = -4) (hf2 : fdR P n (n + 1) 0 = -4) : ∃ M' : Mem, Y 21 mX5_days 0 (lent 4 [.ref 0]) [] M (some (.int ((dyR P n (n + 1) 0 V).1 2 - V 2))) M' ∧ CI M' (dyR P n (n + 1) 0 V).1 (kup K) (hup K h V) ∧ stC (dyR P n (n + 1) 0 V).2 M' ∧ M' 73 0 = 0 ∧ M' 0 7 = M 0 7 ∧ ∀ c, (21 ≤ c ∧ c ≤ 30) ∨ 84 ≤ c → M' c = M c := by
  have hV := hG.1
  obtain ⟨hn1, hn2⟩ := WF_n hV
  have hC0 := hC
  obtain ⟨hR, hH⟩ := hC0
  have hH0 := hH
  obtain ⟨hK, hk0, w, hw, hk2, _⟩ := hH0
  have hrec := y_record hK hw hk0 hk2
  have hrr := CI_rec hC hn1 hw hk2
  rw [show updM (cfM (updM M 31 2 (nI ((w + 1) % 4))) (33 + 10 * ((w + 1) % 4)) 1) 31 0 (nI (min (K + 1) 4)) = recC M K w from rfl] at hrec
  generalize recC M K w = M1 at *
  obtain ⟨hC1, hF1⟩ := hrr
  have hR1 := hC1.1
  have hfd := y_fd hP hM
  rw [hf] at hfd
  have hnm := y_needsMet mk1 hR1 hV
  have f0 : ∀ c, c ≠ 0 → updM M1 0 9 (-1) c = M1 c := fun c h => updM_ne h
  have hR2 : RM (updM M1 0 9 (-1)) 1 V := RM_congr (fun c a b => f0 c (by omega)) hR1
  obtain ⟨M2, s2, r2, t2, tz, q7, f2⟩ := y_dy_loop hP (bf := V 2) (n + 1) 0 V (updM M1 0 9 (-1)) none (by omega) (by omega) hf2 hR2 hG ⟨by rw [f0 73 (by omega), hF1 73 (by omega)]; exact hM.1, by rw [f0 74 (by omega), hF1 74 (by omega)]; exact hM.2⟩ (by simp [updM])
  refine ⟨M2, ?_, ⟨r2, HC_fr (fun c a b => by rw [f2 c (by omega), f0 c (by omega)]) hC1.2⟩, t2, tz, by rw [q7, updM_at, if_neg (by omega), hF1 0 (by omega)], fun c hc => by rw [f2 c (by omega), f0 c (by omega), hF1 c (by omega)]⟩
  skip
  refine x_aload_n dX5_days_0 rfl ?_
  refine y_getR fkX5_32 dX5_days_1 (by decide) rfl rfl ?_
  refine y_callV0 okX3_faultAsDays lkX5_124 dX5_days_4 (by decide) rfl ((hfd.more (d' := 20) (by omega))) (by omega) (Nat.le_of_ble_eq_true rfl) rfl rfl (cat8 rfl) ?_
  refine x_bipushv (v := -4) dX5_days_7 (by decide) ?_
  refine x_icmp_eq 15 dX5_days_9 (by decide) (fun c_9 => ?_) (fun c_9 => ?_)
  · refine x_aload_n dX5_days_15 rfl ?_
    refine y_getR fkX5_25 dX5_days_16 (by decide) rfl rfl ?_
    refine x_aload_n dX5_days_19 rfl ?_
    refine y_getR fkX5_10 dX5_days_20 (by decide) rfl rfl ?_
    refine y_callV (as := [_]) okX1_record lkX5_64 dX5_days_23 rfl (by decide) rfl ((hrec.more (d' := 20) (by omega))) (by omega) rfl (by simp [Value.category]) (Nat.le_of_ble_eq_true rfl) rfl rfl (cat8 rfl) ?_
    refine x_aload_n dX5_days_26 rfl ?_
    refine y_getR fkX5_10 dX5_days_27 (by decide) rfl rfl ?_
    refine y_callV0 okX2_needsMet lkX5_141 dX5_days_30 (by decide) rfl ((hnm.more (d' := 20) (by omega))) (by omega) (Nat.le_of_ble_eq_true rfl) rfl rfl (cat8 rfl) ?_
    refine x_istore_n dX5_days_33 (by decide) rfl ?_
    refine x_aload_n dX5_days_34 rfl ?_
    refine x_iconstv (v := -1) dX5_days_35 (by decide) ?_
    refine y_putI fkX5_50 dX5_days_36 (by decide) rfl rfl rfl rfl rfl ?_
    refine x_iconstv (v := 0) dX5_days_39 (by decide) ?_
    refine x_istore_n dX5_days_40 (by decide) rfl ?_
    exact s2
  · exact absurd rfl c_9
theorem r_isDone {M : Mem} (hG : Good (M 85)) {P : Row} {n : Nat} (hP : Pad P n) (hM : PadR M P n) {i : Nat} (hi : i + 2 < n) : ∃ M' : Mem, Y 5 mX6_isDone 0 (lent 5 [.ref 84, .int (nI i)]) [] M (some (.int (b2i (decide (dyO (M 85) (P (i + 1) - 48) (P (i + 2) - 48) = 10))))) M' ∧ M' 85 = dyV (M 85) (P (i + 1) - 48) (P (i + 2) - 48) ∧ M' 84 8 = (if dyO (M 85) (P (i + 1) - 48) (P (i + 2) - 48) = 10 then -4 else dyO (M 85) (P (i + 1) - 48) (P (i + 2) - 48)) ∧ M' 84 9 = (if dyO (M 85) (P (i + 1) - 48) (P (i + 2) - 48) = 10 then -4 else nI i) ∧ (∀ k, k ≠ 8 → k ≠ 9 → M' 84 k = M 84 k) ∧ ∀ c, c ≠ 84 → c ≠ 85 → c < 90 → M' c = M c := by
  have hn60 := hP.1
  have hV := hG.1
  have g1 : M 89 (i + 1) = P (i + 1) := hM.2 (i + 1) (by omega)
  have g2 : M 89 (i + 2) = P (i + 2) := hM.2 (i + 2) hi
  have hb := r_arePair hV (a := P (i + 1) - 48) (b := P (i + 2) - 48)
  generalize hx : P (i + 1) - 48 = x at *
  generalize hy : P (i + 2) - 48 = y at *
  cases hbb : bothB (M 85) x y with
  | true =>
    rw [hbb] at hb
    obtain ⟨a, b, ha, hb2, rfl, rfl⟩ := both_of hV hbb
    obtain ⟨M1, s1, r1, f1⟩ := r_barters hV ha hb2
    have eo : dyO (M 85) (nI a) (nI b) = bartR (M 85) a b := by
      unfold dyO
      rw [if_pos hbb, nI_clamp (n31 hV (Nat.le_of_lt ha)), nI_clamp (n31 hV (Nat.le_of_lt hb2))]
    have ev : dyV (M 85) (nI a) (nI b) = bartV (M 85) a b := by
      unfold dyV
      rw [if_pos hbb, nI_clamp (n31 hV (Nat.le_of_lt ha)), nI_clamp (n31 hV (Nat.le_of_lt hb2))]
    rw [eo, ev]
    by_cases h10 : bartR (M 85) a b = 10
    · rw [if_pos h10, if_pos h10, decide_eq_true h10]
      rw [h10] at s1
      refine ⟨updM (updM M1 84 8 (-4)) 84 9 (-4), ?_, by rw [updM_ne (by decide), updM_ne (by decide)]; exact r1, by simp [updM], by simp [updM], fun k h1 h2 => by rw [updM_at, if_neg (by omega), updM_at, if_neg (by omega), f1 84 (by omega) (by omega) (by omega)], fun c h1 h2 h3 => by rw [updM_ne h1, updM_ne h1, f1 c h2 (by omega) (by omega)]⟩
      skip
      refine x_aload_n dX6_isDone_0 rfl ?_
      refine y_getR fkX6_22 dX6_isDone_1 (by decide) rfl rfl ?_
      refine x_iload_n dX6_isDone_4 rfl ?_
      refine x_iconstv (v := 1) dX6_isDone_5 (by decide) ?_
      refine x_iadd dX6_isDone_6 ?_
      rw [nI_1]
      refine y_ialdn (j := i + 1) dX6_isDone_7 (by decide) rfl (ixN (by omega)) (by omega) ?_
      rw [g1]
      refine x_bipushv (v := 48) dX6_isDone_8 (by decide) ?_
      refine x_isub dX6_isDone_10 ?_
      rw [hx]
      refine x_istore_n dX6_isDone_11 (by decide) rfl ?_
      refine x_aload_n dX6_isDone_12 rfl ?_
      refine y_getR fkX6_22 dX6_isDone_13 (by decide) rfl rfl ?_
      refine x_iload_n dX6_isDone_16 rfl ?_
      refine x_iconstv (v := 2) dX6_isDone_17 (by decide) ?_
      refine x_iadd dX6_isDone_18 ?_
      rw [show nI i + 2 = nI (i + 2) from nI_add i 2]
      refine y_ialdn (j := i + 2) dX6_isDone_19 (by decide) rfl (ixN (by omega)) (by omega) ?_
      rw [g2]
      refine x_bipushv (v := 48) dX6_isDone_20 (by decide) ?_
      refine x_isub dX6_isDone_22 ?_
      rw [hy]
      refine x_istore_n dX6_isDone_23 (by decide) rfl ?_
      refine x_aload_n dX6_isDone_24 rfl ?_
      refine x_iload_n dX6_isDone_25 rfl ?_
      refine x_iload_n dX6_isDone_26 rfl ?_
      refine y_callV (as := [_, _]) okX6_arePair lkX6_117 dX6_isDone_27 rfl (by decide) rfl ((hb.more (d' := 4) (by omega))) (by omega) rfl (by simp [Value.category]) (Nat.le_of_ble_eq_true rfl) rfl rfl (cat8 rfl) ?_
      refine x_if_eq 42 dX6_isDone_30 (by decide) (fun c_30 => ?_) (fun c_30 => ?_)
      · exact absurd c_30 (by decide)
      · refine x_aload_n dX6_isDone_33 rfl ?_
        refine x_iload_n dX6_isDone_34 rfl ?_
        refine x_iload_n dX6_isDone_35 rfl ?_
        refine y_callV (as := [_, _]) okX6_barters lkX6_120 dX6_isDone_36 rfl (by decide) rfl (s1) (by omega) rfl (by simp [Value.category]) (Nat.le_of_ble_eq_true rfl) rfl rfl (cat8 rfl) ?_
        refine x_goto 43 dX6_isDone_39 (by decide) ?_
        refine x_istore dX6_isDone_43 (by decide) rfl ?_
        refine x_aload_n dX6_isDone_45 rfl ?_
        refine x_iload dX6_isDone_46 rfl ?_
        refine x_bipushv (v := 10) dX6_isDone_48 (by decide) ?_
        refine x_icmp_ne 58 dX6_isDone_50 (by decide) (fun c_50 => ?_) (fun c_50 => ?_)
        · exact absurd rfl c_50
        · refine x_bipushv (v := -4) dX6_isDone_53 (by decide) ?_
          refine x_goto 60 dX6_isDone_55 (by decide) ?_
          refine y_putI fkX6_25 dX6_isDone_60 (by decide) rfl rfl rfl rfl rfl ?_
          refine x_aload_n dX6_isDone_63 rfl ?_
          refine x_iload dX6_isDone_64 rfl ?_
          refine x_bipushv (v := 10) dX6_isDone_66 (by decide) ?_
          refine x_icmp_ne 76 dX6_isDone_68 (by decide) (fun c_68 => ?_) (fun c_68 => ?_)
          · exact absurd rfl c_68
          · refine x_bipushv (v := -4) dX6_isDone_71 (by decide) ?_
            refine x_goto 77 dX6_isDone_73 (by decide) ?_
            refine y_putI fkX6_29 dX6_isDone_77 (by decide) rfl rfl rfl rfl rfl ?_
            refine x_iload dX6_isDone_80 rfl ?_
            refine x_bipushv (v := 10) dX6_isDone_82 (by decide) ?_
            refine x_icmp_ne 91 dX6_isDone_84 (by decide) (fun c_84 => ?_) (fun c_84 => ?_)
            · exact absurd rfl c_84
            · refine x_iconstv (v := 1) dX6_isDone_87 (by decide) ?_
              refine x_goto 92 dX6_isDone_88 (by decide) ?_
              exact y_ret dX6_isDone_92 rfl (rfl) (rfl) (rfl)
    · rw [if_neg h10, if_neg h10, decide_eq_false h10]
      refine ⟨updM (updM M1 84 8 (bartR (M 85) a b)) 84 9 (nI i), ?_, by rw [updM_ne (by decide), updM_ne (by decide)]; exact r1, by simp [updM], by simp [updM], fun k h1 h2 => by rw [updM_at, if_neg (by omega), updM_at, if_neg (by omega), f1 84 (by omega) (by omega) (by omega)], fun c h1 h2 h3 => by rw [updM_ne h1, updM_ne h1, f1 c h2 (by omega) (by omega)]⟩
      skip
      refine x_aload_n dX6_isDone_0 rfl ?_
      refine y_getR fkX6_22 dX6_isDone_1 (by decide) rfl rfl ?_
      refine x_iload_n dX6_isDone_4 rfl ?_
      refine x_iconstv (v := 1) dX6_isDone_5 (by decide) ?_
      refine x_iadd dX6_isDone_6 ?_
      rw [nI_1]
      refine y_ialdn (j := i + 1) dX6_isDone_7 (by decide) rfl (ixN (by omega)) (by omega) ?_
      rw [g1]
      refine x_bipushv (v := 48) dX6_isDone_8 (by decide) ?_
      refine x_isub dX6_isDone_10 ?_
      rw [hx]
      refine x_istore_n dX6_isDone_11 (by decide) rfl ?_
      refine x_aload_n dX6_isDone_12 rfl ?_
      refine y_getR fkX6_22 dX6_isDone_13 (by decide) rfl rfl ?_
      refine x_iload_n dX6_isDone_16 rfl ?_
      refine x_iconstv (v := 2) dX6_isDone_17 (by decide) ?_
      refine x_iadd dX6_isDone_18 ?_
      rw [show nI i + 2 = nI (i + 2) from nI_add i 2]
      refine y_ialdn (j := i + 2) dX6_isDone_19 (by decide) rfl (ixN (by omega)) (by omega) ?_
      rw [g2]
      refine x_bipushv (v := 48) dX6_isDone_20 (by decide) ?_
      refine x_isub dX6_isDone_22 ?_
      rw [hy]
      refine x_istore_n dX6_isDone_23 (by decide) rfl ?_
      refine x_aload_n dX6_isDone_24 rfl ?_
      refine x_iload_n dX6_isDone_25 rfl ?_
      refine x_iload_n dX6_isDone_26 rfl ?_
      refine y_callV (as := [_, _]) okX6_arePair lkX6_117 dX6_isDone_27 rfl (by decide) rfl ((hb.more (d' := 4) (by omega))) (by omega) rfl (by simp [Value.category]) (Nat.le_of_ble_eq_true rfl) rfl rfl (cat8 rfl) ?_
      refine x_if_eq 42 dX6_isDone_30 (by decide) (fun c_30 => ?_) (fun c_30 => ?_)
      · exact absurd c_30 (by decide)
      · refine x_aload_n dX6_isDone_33 rfl ?_
        refine x_iload_n dX6_isDone_34 rfl ?_
        refine x_iload_n dX6_isDone_35 rfl ?_
        refine y_callV (as := [_, _]) okX6_barters lkX6_120 dX6_isDone_36 rfl (by decide) rfl (s1) (by omega) rfl (by simp [Value.category]) (Nat.le_of_ble_eq_true rfl) rfl rfl (cat8 rfl) ?_
        refine x_goto 43 dX6_isDone_39 (by decide) ?_
        refine x_istore dX6_isDone_43 (by decide) rfl ?_
        refine x_aload_n dX6_isDone_45 rfl ?_
        refine x_iload dX6_isDone_46 rfl ?_
        refine x_bipushv (v := 10) dX6_isDone_48 (by decide) ?_
        refine x_icmp_ne 58 dX6_isDone_50 (by decide) (fun c_50 => ?_) (fun c_50 => ?_)
        · refine x_iload dX6_isDone_58 rfl ?_
          refine y_putI fkX6_25 dX6_isDone_60 (by decide) rfl rfl rfl rfl rfl ?_
          refine x_aload_n dX6_isDone_63 rfl ?_
          refine x_iload dX6_isDone_64 rfl ?_
          refine x_bipushv (v := 10) dX6_isDone_66 (by decide) ?_
          refine x_icmp_ne 76 dX6_isDone_68 (by decide) (fun c_68 => ?_) (fun c_68 => ?_)
          · refine x_iload_n dX6_isDone_76 rfl ?_
            refine y_putI fkX6_29 dX6_isDone_77 (by decide) rfl rfl rfl rfl rfl ?_
            refine x_iload dX6_isDone_80 rfl ?_
            refine x_bipushv (v := 10) dX6_isDone_82 (by decide) ?_
            refine x_icmp_ne 91 dX6_isDone_84 (by decide) (fun c_84 => ?_) (fun c_84 => ?_)
            · refine x_iconstv (v := 0) dX6_isDone_91 (by decide) ?_
              exact y_ret dX6_isDone_92 rfl (rfl) (rfl) (rfl)
            · exact absurd c_84 h10
          · exact absurd c_68 h10
        · exact absurd c_50 h10
  | false =>
    rw [hbb] at hb
    have eo : dyO (M 85) x y = -1 := by
      unfold dyO
      rw [if_neg (by rw [hbb]; decide)]
    have ev : dyV (M 85) x y = M 85 := by
      unfold dyV
      rw [if_neg (by rw [hbb]; decide)]
    rw [eo, ev, if_neg (by decide), if_neg (by decide), decide_eq_false (by decide)]
    refine ⟨updM (updM M 84 8 (-1)) 84 9 (nI i), ?_, by rw [updM_ne (by decide), updM_ne (by decide)], by simp [updM], by simp [updM], fun k h1 h2 => by rw [updM_at, if_neg (by omega), updM_at, if_neg (by omega)], fun c h1 h2 h3 => by rw [updM_ne h1, updM_ne h1]⟩
    skip
    refine x_aload_n dX6_isDone_0 rfl ?_
    refine y_getR fkX6_22 dX6_isDone_1 (by decide) rfl rfl ?_
    refine x_iload_n dX6_isDone_4 rfl ?_
    refine x_iconstv (v := 1) dX6_isDone_5 (by decide) ?_
    refine x_iadd dX6_isDone_6 ?_
    rw [nI_1]
    refine y_ialdn (j := i + 1) dX6_isDone_7 (by decide) rfl (ixN (by omega)) (by omega) ?_
    rw [g1]
    refine x_bipushv (v := 48) dX6_isDone_8 (by decide) ?_
    refine x_isub dX6_isDone_10 ?_
    rw [hx]
    refine x_istore_n dX6_isDone_11 (by decide) rfl ?_
    refine x_aload_n dX6_isDone_12 rfl ?_
    refine y_getR fkX6_22 dX6_isDone_13 (by decide) rfl rfl ?_
    refine x_iload_n dX6_isDone_16 rfl ?_
    refine x_iconstv (v := 2) dX6_isDone_17 (by decide) ?_
    refine x_iadd dX6_isDone_18 ?_
    rw [show nI i + 2 = nI (i + 2) from nI_add i 2]
    refine y_ialdn (j := i + 2) dX6_isDone_19 (by decide) rfl (ixN (by omega)) (by omega) ?_
    rw [g2]
    refine x_bipushv (v := 48) dX6_isDone_20 (by decide) ?_
    refine x_isub dX6_isDone_22 ?_
    rw [hy]
    refine x_istore_n dX6_isDone_23 (by decide) rfl ?_
    refine x_aload_n dX6_isDone_24 rfl ?_
    refine x_iload_n dX6_isDone_25 rfl ?_
    refine x_iload_n dX6_isDone_26 rfl ?_
    refine y_callV (as := [_, _]) okX6_arePair lkX6_117 dX6_isDone_27 rfl (by decide) rfl ((hb.more (d' := 4) (by omega))) (by omega) rfl (by simp [Value.category]) (Nat.le_of_ble_eq_true rfl) rfl rfl (cat8 rfl) ?_
    refine x_if_eq 42 dX6_isDone_30 (by decide) (fun c_30 => ?_) (fun c_30 => ?_)
    · refine x_iconstv (v := -1) dX6_isDone_42 (by decide) ?_
      refine x_istore dX6_isDone_43 (by decide) rfl ?_
      refine x_aload_n dX6_isDone_45 rfl ?_
      refine x_iload dX6_isDone_46 rfl ?_
      refine x_bipushv (v := 10) dX6_isDone_48 (by decide) ?_
      refine x_icmp_ne 58 dX6_isDone_50 (by decide) (fun c_50 => ?_) (fun c_50 => ?_)
      · refine x_iload dX6_isDone_58 rfl ?_
        refine y_putI fkX6_25 dX6_isDone_60 (by decide) rfl rfl rfl rfl rfl ?_
        refine x_aload_n dX6_isDone_63 rfl ?_
        refine x_iload dX6_isDone_64 rfl ?_
        refine x_bipushv (v := 10) dX6_isDone_66 (by decide) ?_
        refine x_icmp_ne 76 dX6_isDone_68 (by decide) (fun c_68 => ?_) (fun c_68 => ?_)
        · refine x_iload_n dX6_isDone_76 rfl ?_
          refine y_putI fkX6_29 dX6_isDone_77 (by decide) rfl rfl rfl rfl rfl ?_
          refine x_iload dX6_isDone_80 rfl ?_
          refine x_bipushv (v := 10) dX6_isDone_82 (by decide) ?_
          refine x_icmp_ne 91 dX6_isDone_84 (by decide) (fun c_84 => ?_) (fun c_84 => ?_)
          · refine x_iconstv (v := 0) dX6_isDone_91 (by decide) ?_
            exact y_ret dX6_isDone_92 rfl (rfl) (rfl) (rfl)
          · exact absurd c_84 (by decide)
        · exact absurd c_68 (by decide)
      · exact absurd c_50 (by decide)
    · exact absurd rfl c_30
theorem r_dy_end0 {M : Mem} {V : Row} (h85 : M 85 = V) {n i : Nat}  {hd : Int32} {l4 l5 : Option Value} : ∃ M' : Mem, Y 8 mX6_days 39 [some (.ref 84), some (.int hd), some (.int (nI i)), some (.int 0), l4, l5] [] M (some (.int (V 2 - hd))) M' ∧ M' 85 = V ∧ (∀ k, k ≠ 7 → M' 84 k = M 84 k) ∧ M' 84 7 = 0 ∧ ∀ c, c ≠ 84 → M' c = M c := by
  have e1 : updM M 84 7 0 85 2 = V 2 := by rw [updM_ne (by decide), h85]
  refine ⟨updM M 84 7 0, ?_, by rw [updM_ne (by decide)]; exact h85, fun i h => by rw [updM_at, if_neg (by omega)], by rw [updM_at, if_pos ⟨rfl, rfl⟩], fun c h => updM_ne h⟩
  skip
  refine x_iload_n dX6_days_39 rfl ?_
  refine x_if_eq 129 dX6_days_40 (by decide) (fun c_40 => ?_) (fun c_40 => ?_)
  · refine x_aload_n dX6_days_129 rfl ?_
    refine x_iconstv (v := 0) dX6_days_130 (by decide) ?_
    refine y_putI fkX6_130 dX6_days_131 (by decide) rfl rfl rfl rfl rfl ?_
    refine x_aload_n dX6_days_134 rfl ?_
    refine y_getR fkX6_7 dX6_days_135 (by decide) rfl rfl ?_
    refine x_iconstv (v := 2) dX6_days_138 (by decide) ?_
    refine y_ialdn (j := 2) dX6_days_139 (by decide) rfl (by decide) (by decide) ?_
    rw [e1]
    refine x_iload_n dX6_days_140 rfl ?_
    refine x_isub dX6_days_141 ?_
    exact y_ret dX6_days_142 rfl (rfl) (rfl) (rfl)
  · exact absurd rfl c_40
theorem r_dy_endn {M : Mem} {V : Row} (h85 : M 85 = V) {n i : Nat} (h7 : M 84 7 = nI n) (hi : n ≤ i) (hi2 : i < 100) {hd : Int32} {l4 l5 : Option Value} : ∃ M' : Mem, Y 8 mX6_days 39 [some (.ref 84), some (.int hd), some (.int (nI i)), some (.int 1), l4, l5] [] M (some (.int (V 2 - hd))) M' ∧ M' 85 = V ∧ (∀ k, k ≠ 7 → M' 84 k = M 84 k) ∧ M' 84 7 = 0 ∧ ∀ c, c ≠ 84 → M' c = M c := by
  have hle := nI_le hi (by omega)
  have e1 : updM M 84 7 0 85 2 = V 2 := by rw [updM_ne (by decide), h85]
  refine ⟨updM M 84 7 0, ?_, by rw [updM_ne (by decide)]; exact h85, fun i h => by rw [updM_at, if_neg (by omega)], by rw [updM_at, if_pos ⟨rfl, rfl⟩], fun c h => updM_ne h⟩
  skip
  refine x_iload_n dX6_days_39 rfl ?_
  refine x_if_eq 129 dX6_days_40 (by decide) (fun c_40 => ?_) (fun c_40 => ?_)
  · exact absurd c_40 (by decide)
  · refine x_iload_n dX6_days_43 rfl ?_
    refine x_aload_n dX6_days_44 rfl ?_
    refine y_getI fkX6_130 dX6_days_45 (by decide) rfl rfl ?_
    rw [h7]
    refine x_icmp_ge 129 dX6_days_48 (by decide) (fun c_48 => ?_) (fun c_48 => ?_)
    · refine x_aload_n dX6_days_129 rfl ?_
      refine x_iconstv (v := 0) dX6_days_130 (by decide) ?_
      refine y_putI fkX6_130 dX6_days_131 (by decide) rfl rfl rfl rfl rfl ?_
      refine x_aload_n dX6_days_134 rfl ?_
      refine y_getR fkX6_7 dX6_days_135 (by decide) rfl rfl ?_
      refine x_iconstv (v := 2) dX6_days_138 (by decide) ?_
      refine y_ialdn (j := 2) dX6_days_139 (by decide) rfl (by decide) (by decide) ?_
      rw [e1]
      refine x_iload_n dX6_days_140 rfl ?_
      refine x_isub dX6_days_141 ?_
      exact y_ret dX6_days_142 rfl (rfl) (rfl) (rfl)
    · exact absurd hle c_48
theorem r_dy_loop {P : Row} {n : Nat} (hP : Pad P n) {hd : Int32} : ∀ (f i : Nat) (V : Row) (M : Mem) (l4 l5 : Option Value), i ≤ n → n - i < f → fdR P n f i = -4 → M 85 = V → Good V → PadR M P n → M 84 8 = -4 → M 84 9 = -4 → ∃ M' : Mem, Y 8 mX6_days 39 [some (.ref 84), some (.int hd), some (.int (nI i)), some (.int 1), l4, l5] [] M (some (.int ((dyR P n f i V).1 2 - hd))) M' ∧ M' 85 = (dyR P n f i V).1 ∧ stR (dyR P n f i V).2 M' ∧ M' 84 7 = 0 ∧ (∀ c, c ≠ 84 → c ≠ 85 → c < 90 → M' c = M c) ∧ ∀ k, k ≠ 7 → k ≠ 8 → k ≠ 9 → k ≠ 11 → M' 84 k = M 84 k := by
  have hn60 := hP.1
  intro f
  induction f with
  | zero => intro i V M l4 l5 h1 h2; omega
  | succ f ih =>
    intro i V M l4 l5 h1 h2 hf h85 hG hM h8 h9
    rw [dyR]
    by_cases hin : i < n
    · rw [if_pos hin]
      have hlt := nI_ge (a := i) (b := n) hin (by omega)
      have ep : M 89 i = P i := hM.2 i hin
      rcases fd_at hn60 hin hf with ⟨hx, h3, d1, d2, hf3⟩ | ⟨hc, hf1⟩
      · rw [if_pos hx]
        obtain ⟨M1, s1, r1, p1, p2, p3, p4⟩ := r_isDone (M := M) (by rw [h85]; exact hG) hP hM h3
        rw [h85] at s1 r1 p1 p2
        have hM1 : PadR M1 P n := ⟨by rw [p3 7 (by omega) (by omega)]; exact hM.1, by rw [p4 89 (by omega) (by omega) (by omega)]; exact hM.2⟩
        by_cases h10 : dyO V (P (i + 1) - 48) (P (i + 2) - 48) = 10
        · rw [if_pos h10] at p1 p2 ⊢
          rw [decide_eq_true h10] at s1
          obtain ⟨M9, s9, q1, q2, q3, q4, q5⟩ := ih (i + 3) _ M1 (some (.int 120)) (some (.int 0)) (by omega) (by omega) hf3 r1 (Good_dyV hG) hM1 p1 p2
          refine ⟨M9, ?_, q1, q2, q3, fun c a b d => by rw [q4 c a b d, p4 c a b d], fun k a b c d => by rw [q5 k a b c d, p3 k b c]⟩
          skip
          refine x_iload_n dX6_days_39 rfl ?_
          refine x_if_eq 129 dX6_days_40 (by decide) (fun c_40 => ?_) (fun c_40 => ?_)
          · exact absurd c_40 (by decide)
          · refine x_iload_n dX6_days_43 rfl ?_
            refine x_aload_n dX6_days_44 rfl ?_
            refine y_getI fkX6_130 dX6_days_45 (by decide) rfl rfl ?_
            rw [hM.1]
            refine x_icmp_ge 129 dX6_days_48 (by decide) (fun c_48 => ?_) (fun c_48 => ?_)
            · exact absurd c_48 hlt
            · refine x_aload_n dX6_days_51 rfl ?_
              refine y_getR fkX6_22 dX6_days_52 (by decide) rfl rfl ?_
              refine x_iload_n dX6_days_55 rfl ?_
              refine y_ialdn (j := i) dX6_days_56 (by decide) rfl (ixN (by omega)) (by omega) ?_
              rw [ep, hx]
              refine x_istore dX6_days_57 (by decide) rfl ?_
              refine x_iload dX6_days_59 rfl ?_
              refine x_bipushv (v := 99) dX6_days_61 (by decide) ?_
              refine x_icmp_ne 73 dX6_days_63 (by decide) (fun c_63 => ?_) (fun c_63 => ?_)
              · refine x_iload dX6_days_73 rfl ?_
                refine x_bipushv (v := 100) dX6_days_75 (by decide) ?_
                refine x_icmp_ne 87 dX6_days_77 (by decide) (fun c_77 => ?_) (fun c_77 => ?_)
                · refine x_iconstv (v := 0) dX6_days_87 (by decide) ?_
                  refine x_istore dX6_days_88 (by decide) rfl ?_
                  refine x_iload dX6_days_90 rfl ?_
                  refine x_bipushv (v := 120) dX6_days_92 (by decide) ?_
                  refine x_icmp_ne 105 dX6_days_94 (by decide) (fun c_94 => ?_) (fun c_94 => ?_)
                  · exact absurd rfl c_94
                  · refine x_aload_n dX6_days_97 rfl ?_
                    refine x_iload_n dX6_days_98 rfl ?_
                    refine y_callV (as := [_]) okX6_isDone lkX6_148 dX6_days_99 rfl (by decide) rfl ((s1.more (d' := 7) (by omega))) (by omega) rfl (by simp [Value.category]) (Nat.le_of_ble_eq_true rfl) rfl rfl (cat8 rfl) ?_
                    refine x_if_eq 109 dX6_days_102 (by decide) (fun c_102 => ?_) (fun c_102 => ?_)
                    · exact absurd c_102 (by decide)
                    · refine x_iconstv (v := 1) dX6_days_105 (by decide) ?_
                      refine x_goto 110 dX6_days_106 (by decide) ?_
                      refine x_istore_n dX6_days_110 (by decide) rfl ?_
                      refine x_iload_n dX6_days_111 rfl ?_
                      refine x_iload dX6_days_112 rfl ?_
                      refine x_bipushv (v := 120) dX6_days_114 (by decide) ?_
                      refine x_icmp_ne 123 dX6_days_116 (by decide) (fun c_116 => ?_) (fun c_116 => ?_)
                      · exact absurd rfl c_116
                      · refine x_iconstv (v := 3) dX6_days_119 (by decide) ?_
                        refine x_goto 124 dX6_days_120 (by decide) ?_
                        refine x_iadd dX6_days_124 ?_
                        rw [show nI i + 3 = nI (i + 3) from nI_add i 3]
                        refine x_istore_n dX6_days_125 (by decide) rfl ?_
                        refine x_goto 39 dX6_days_126 (by decide) ?_
                        exact s9
                · exact absurd c_77 (by decide)
              · exact absurd c_63 (by decide)
        · rw [if_neg h10] at p1 p2 ⊢
          rw [decide_eq_false h10] at s1
          obtain ⟨M9, s9, q1, q2, q3, q4⟩ := r_dy_end0 (M := M1) r1 (n := n) (i := i + 3) (hd := hd) (l4 := some (.int 120)) (l5 := some (.int 0))
          refine ⟨M9, ?_, q1, ⟨by rw [q2 8 (by omega)]; exact p1, by rw [q2 9 (by omega)]; exact p2⟩, q3, fun c a b d => by rw [q4 c a, p4 c a b d], fun k a b c d => by rw [q2 k a, p3 k b c]⟩
          skip
          refine x_iload_n dX6_days_39 rfl ?_
          refine x_if_eq 129 dX6_days_40 (by decide) (fun c_40 => ?_) (fun c_40 => ?_)
          · exact absurd c_40 (by decide)
          · refine x_iload_n dX6_days_43 rfl ?_
            refine x_aload_n dX6_days_44 rfl ?_
            refine y_getI fkX6_130 dX6_days_45 (by decide) rfl rfl ?_
            rw [hM.1]
            refine x_icmp_ge 129 dX6_days_48 (by decide) (fun c_48 => ?_) (fun c_48 => ?_)
            · exact absurd c_48 hlt
            · refine x_aload_n dX6_days_51 rfl ?_
              refine y_getR fkX6_22 dX6_days_52 (by decide) rfl rfl ?_
              refine x_iload_n dX6_days_55 rfl ?_
              refine y_ialdn (j := i) dX6_days_56 (by decide) rfl (ixN (by omega)) (by omega) ?_
              rw [ep, hx]
              refine x_istore dX6_days_57 (by decide) rfl ?_
              refine x_iload dX6_days_59 rfl ?_
              refine x_bipushv (v := 99) dX6_days_61 (by decide) ?_
              refine x_icmp_ne 73 dX6_days_63 (by decide) (fun c_63 => ?_) (fun c_63 => ?_)
              · refine x_iload dX6_days_73 rfl ?_
                refine x_bipushv (v := 100) dX6_days_75 (by decide) ?_
                refine x_icmp_ne 87 dX6_days_77 (by decide) (fun c_77 => ?_) (fun c_77 => ?_)
                · refine x_iconstv (v := 0) dX6_days_87 (by decide) ?_
                  refine x_istore dX6_days_88 (by decide) rfl ?_
                  refine x_iload dX6_days_90 rfl ?_
                  refine x_bipushv (v := 120) dX6_days_92 (by decide) ?_
                  refine x_icmp_ne 105 dX6_days_94 (by decide) (fun c_94 => ?_) (fun c_94 => ?_)
                  · exact absurd rfl c_94
                  · refine x_aload_n dX6_days_97 rfl ?_
                    refine x_iload_n dX6_days_98 rfl ?_
                    refine y_callV (as := [_]) okX6_isDone lkX6_148 dX6_days_99 rfl (by decide) rfl ((s1.more (d' := 7) (by omega))) (by omega) rfl (by simp [Value.category]) (Nat.le_of_ble_eq_true rfl) rfl rfl (cat8 rfl) ?_
                    refine x_if_eq 109 dX6_days_102 (by decide) (fun c_102 => ?_) (fun c_102 => ?_)
                    · refine x_iconstv (v := 0) dX6_days_109 (by decide) ?_
                      refine x_istore_n dX6_days_110 (by decide) rfl ?_
                      refine x_iload_n dX6_days_111 rfl ?_
                      refine x_iload dX6_days_112 rfl ?_
                      refine x_bipushv (v := 120) dX6_days_114 (by decide) ?_
                      refine x_icmp_ne 123 dX6_days_116 (by decide) (fun c_116 => ?_) (fun c_116 => ?_)
                      · exact absurd rfl c_116
                      · refine x_iconstv (v := 3) dX6_days_119 (by decide) ?_
                        refine x_goto 124 dX6_days_120 (by decide) ?_
                        refine x_iadd dX6_days_124 ?_
                        rw [show nI i + 3 = nI (i + 3) from nI_add i 3]
                        refine x_istore_n dX6_days_125 (by decide) rfl ?_
                        refine x_goto 39 dX6_days_126 (by decide) ?_
                        exact s9
                    · exact absurd rfl c_102
                · exact absurd c_77 (by decide)
              · exact absurd c_63 (by decide)
      · have hnx : ¬ P i = 120 := by
          rcases hc with q | q <;> (rw [q]; decide)
        rw [if_neg hnx]
        by_cases h99 : P i = 99
        · rw [if_pos h99]
          obtain ⟨M1, s1, r1, p1, p2⟩ := r_calls (M := M) (by rw [h85]; exact hG.1)
          rw [h85] at s1 r1
          obtain ⟨M9, s9, q1, q2, q3, q4, q5⟩ := ih (i + 1) _ M1 (some (.int 99)) (some (.int (mstV V (cirN V)))) (by omega) (by omega) hf1 r1 (Good_callW hG) ⟨by rw [p1 7 (by omega)]; exact hM.1, by rw [p2 89 (by omega) (by omega) (by omega) (by omega) (by omega) (by omega) (by omega)]; exact hM.2⟩ (by rw [p1 8 (by omega)]; exact h8) (by rw [p1 9 (by omega)]; exact h9)
          refine ⟨M9, ?_, q1, q2, q3, fun c a b d => by rw [q4 c a b d, p2 c a b (by omega) (by omega) (by omega) (by omega) (by omega)], fun k a b c d => by rw [q5 k a b c d, p1 k d]⟩
          skip
          refine x_iload_n dX6_days_39 rfl ?_
          refine x_if_eq 129 dX6_days_40 (by decide) (fun c_40 => ?_) (fun c_40 => ?_)
          · exact absurd c_40 (by decide)
          · refine x_iload_n dX6_days_43 rfl ?_
            refine x_aload_n dX6_days_44 rfl ?_
            refine y_getI fkX6_130 dX6_days_45 (by decide) rfl rfl ?_
            rw [hM.1]
            refine x_icmp_ge 129 dX6_days_48 (by decide) (fun c_48 => ?_) (fun c_48 => ?_)
            · exact absurd c_48 hlt
            · refine x_aload_n dX6_days_51 rfl ?_
              refine y_getR fkX6_22 dX6_days_52 (by decide) rfl rfl ?_
              refine x_iload_n dX6_days_55 rfl ?_
              refine y_ialdn (j := i) dX6_days_56 (by decide) rfl (ixN (by omega)) (by omega) ?_
              rw [ep, h99]
              refine x_istore dX6_days_57 (by decide) rfl ?_
              refine x_iload dX6_days_59 rfl ?_
              refine x_bipushv (v := 99) dX6_days_61 (by decide) ?_
              refine x_icmp_ne 73 dX6_days_63 (by decide) (fun c_63 => ?_) (fun c_63 => ?_)
              · exact absurd rfl c_63
              · refine x_aload_n dX6_days_66 rfl ?_
                refine y_callV0 okX6_calls lkX6_123 dX6_days_67 (by decide) rfl ((s1.more (d' := 7) (by omega))) (by omega) (Nat.le_of_ble_eq_true rfl) rfl rfl (cat8 rfl) ?_
                refine x_goto 88 dX6_days_70 (by decide) ?_
                refine x_istore dX6_days_88 (by decide) rfl ?_
                refine x_iload dX6_days_90 rfl ?_
                refine x_bipushv (v := 120) dX6_days_92 (by decide) ?_
                refine x_icmp_ne 105 dX6_days_94 (by decide) (fun c_94 => ?_) (fun c_94 => ?_)
                · refine x_iconstv (v := 1) dX6_days_105 (by decide) ?_
                  refine x_goto 110 dX6_days_106 (by decide) ?_
                  refine x_istore_n dX6_days_110 (by decide) rfl ?_
                  refine x_iload_n dX6_days_111 rfl ?_
                  refine x_iload dX6_days_112 rfl ?_
                  refine x_bipushv (v := 120) dX6_days_114 (by decide) ?_
                  refine x_icmp_ne 123 dX6_days_116 (by decide) (fun c_116 => ?_) (fun c_116 => ?_)
                  · refine x_iconstv (v := 1) dX6_days_123 (by decide) ?_
                    refine x_iadd dX6_days_124 ?_
                    refine x_istore_n dX6_days_125 (by decide) rfl ?_
                    refine x_goto 39 dX6_days_126 (by decide) ?_
                    rw [nI_1]
                    exact s9
                  · exact absurd c_116 (by decide)
                · exact absurd c_94 (by decide)
        · rw [if_neg h99]
          have h100 : P i = 100 := hc.resolve_left h99
          have s1 := r_passes (M := M) (by rw [h85]; exact hG)
          rw [h85] at s1
          obtain ⟨M9, s9, q1, q2, q3, q4, q5⟩ := ih (i + 1) _ (setR M 85 (passV V)) (some (.int 100)) (some (.int (thrV V))) (by omega) (by omega) hf1 row_at (Good_pass hG) ⟨by rw [row_ne (by decide)]; exact hM.1, by rw [row_ne (by decide)]; exact hM.2⟩ (by rw [row_ne (by decide)]; exact h8) (by rw [row_ne (by decide)]; exact h9)
          refine ⟨M9, ?_, q1, q2, q3, fun c a b d => by rw [q4 c a b d, row_ne b], fun k a b c d => by rw [q5 k a b c d, row_ne (by decide)]⟩
          skip
          refine x_iload_n dX6_days_39 rfl ?_
          refine x_if_eq 129 dX6_days_40 (by decide) (fun c_40 => ?_) (fun c_40 => ?_)
          · exact absurd c_40 (by decide)
          · refine x_iload_n dX6_days_43 rfl ?_
            refine x_aload_n dX6_days_44 rfl ?_
            refine y_getI fkX6_130 dX6_days_45 (by decide) rfl rfl ?_
            rw [hM.1]
            refine x_icmp_ge 129 dX6_days_48 (by decide) (fun c_48 => ?_) (fun c_48 => ?_)
            · exact absurd c_48 hlt
            · refine x_aload_n dX6_days_51 rfl ?_
              refine y_getR fkX6_22 dX6_days_52 (by decide) rfl rfl ?_
              refine x_iload_n dX6_days_55 rfl ?_
              refine y_ialdn (j := i) dX6_days_56 (by decide) rfl (ixN (by omega)) (by omega) ?_
              rw [ep, h100]
              refine x_istore dX6_days_57 (by decide) rfl ?_
              refine x_iload dX6_days_59 rfl ?_
              refine x_bipushv (v := 99) dX6_days_61 (by decide) ?_
              refine x_icmp_ne 73 dX6_days_63 (by decide) (fun c_63 => ?_) (fun c_63 => ?_)
              · refine x_iload dX6_days_73 rfl ?_
                refine x_bipushv (v := 100) dX6_days_75 (by decide) ?_
                refine x_icmp_ne 87 dX6_days_77 (by decide) (fun c_77 => ?_) (fun c_77 => ?_)
                · exact absurd rfl c_77
                · refine x_aload_n dX6_days_80 rfl ?_
                  refine y_callV0 okX6_passes lkX6_127 dX6_days_81 (by decide) rfl ((s1.more (d' := 7) (by omega))) (by omega) (Nat.le_of_ble_eq_true rfl) rfl rfl (cat8 rfl) ?_
                  refine x_goto 88 dX6_days_84 (by decide) ?_
                  refine x_istore dX6_days_88 (by decide) rfl ?_
                  refine x_iload dX6_days_90 rfl ?_
                  refine x_bipushv (v := 120) dX6_days_92 (by decide) ?_
                  refine x_icmp_ne 105 dX6_days_94 (by decide) (fun c_94 => ?_) (fun c_94 => ?_)
                  · refine x_iconstv (v := 1) dX6_days_105 (by decide) ?_
                    refine x_goto 110 dX6_days_106 (by decide) ?_
                    refine x_istore_n dX6_days_110 (by decide) rfl ?_
                    refine x_iload_n dX6_days_111 rfl ?_
                    refine x_iload dX6_days_112 rfl ?_
                    refine x_bipushv (v := 120) dX6_days_114 (by decide) ?_
                    refine x_icmp_ne 123 dX6_days_116 (by decide) (fun c_116 => ?_) (fun c_116 => ?_)
                    · refine x_iconstv (v := 1) dX6_days_123 (by decide) ?_
                      refine x_iadd dX6_days_124 ?_
                      refine x_istore_n dX6_days_125 (by decide) rfl ?_
                      refine x_goto 39 dX6_days_126 (by decide) ?_
                      rw [nI_1]
                      exact s9
                    · exact absurd c_116 (by decide)
                  · exact absurd c_94 (by decide)
              · exact absurd c_63 (by decide)
    · rw [if_neg hin]
      obtain ⟨M9, s9, q1, q2, q3, q4⟩ := r_dy_endn (M := M) h85 (n := n) (i := i) hM.1 (by omega) (by omega) (hd := hd) (l4 := l4) (l5 := l5)
      exact ⟨M9, s9, q1, ⟨by rw [q2 8 (by omega)]; exact h8, by rw [q2 9 (by omega)]; exact h9⟩, q3, fun c a _ _ => q4 c a, fun k a _ _ _ => q2 k a⟩
theorem r_days0 {M : Mem} {P : Row} {n : Nat} (hP : Pad P n) (hM : PadR M P n) (hf : ¬ fdR P n (n + 1) 0 = -4) : Y 9 mX6_days 0 (lent 6 [.ref 84]) [] M (some (.int (-2))) M := by
  skip
  refine x_aload_n dX6_days_0 rfl ?_
  refine y_callV0 okX6_faultOfDays lkX6_145 dX6_days_1 (by decide) rfl (((r_fd hP hM).more (d' := 8) (by omega))) (by omega) (Nat.le_of_ble_eq_true rfl) rfl rfl (cat8 rfl) ?_
  refine x_bipushv (v := -4) dX6_days_4 (by decide) ?_
  refine x_icmp_eq 12 dX6_days_6 (by decide) (fun c_6 => ?_) (fun c_6 => ?_)
  · exact absurd c_6 hf
  · refine x_bipushv (v := -2) dX6_days_9 (by decide) ?_
    exact y_ret dX6_days_11 rfl (rfl) (rfl) (rfl)
theorem r_days1 {M : Mem} {P : Row} {n : Nat} (hP : Pad P n) (hM : PadR M P n) (hG : Good (M 85)) {K : Nat} (hK : K ≤ 4) (hk : M 84 3 = nI K) (hf : fdR P n (n + 1) 0 = -4) : ∃ M' : Mem, Y 9 mX6_days 0 (lent 6 [.ref 84]) [] M (some (.int ((dyR P n (n + 1) 0 (M 85)).1 2 - M 85 2))) M' ∧ M' 85 = (dyR P n (n + 1) 0 (M 85)).1 ∧ stR (dyR P n (n + 1) 0 (M 85)).2 M' ∧ M' 84 7 = 0 ∧ M' 87 = recH M K ∧ M' 84 3 = nI (recK K) ∧ (∀ c, c ≠ 84 → c ≠ 85 → c ≠ 87 → c < 90 → M' c = M c) ∧ ∀ k, k ≠ 3 → k ≠ 7 → k ≠ 8 → k ≠ 9 → k ≠ 11 → M' 84 k = M 84 k := by
  have hfd := r_fd hP hM
  rw [hf] at hfd
  have hrec := r_record hK hk
  have e85 : recM M K 85 = M 85 := rec_85
  have hN : ∀ c, c ≠ 84 → updM (updM (recM M K) 84 8 (-4)) 84 9 (-4) c = recM M K c := fun c h => by rw [updM_ne h, updM_ne h]
  have hN2 : ∀ k, k ≠ 8 → k ≠ 9 → updM (updM (recM M K) 84 8 (-4)) 84 9 (-4) 84 k = recM M K 84 k := fun k h1 h2 => by rw [updM_at, if_neg (by omega), updM_at, if_neg (by omega)]
  obtain ⟨M9, s9, q1, q2, q3, q4, q5⟩ := r_dy_loop hP (hd := M 85 2) (n + 1) 0 (M 85) (updM (updM (recM M K) 84 8 (-4)) 84 9 (-4)) none none (by omega) (by omega) hf (by rw [hN 85 (by omega), e85]) hG ⟨by rw [hN2 7 (by omega) (by omega), rec_84, if_neg (by omega)]; exact hM.1, by rw [hN 89 (by omega), rec_ne (by decide) (by decide)]; exact hM.2⟩ (by simp [updM]) (by simp [updM])
  refine ⟨M9, ?_, q1, q2, q3, by rw [q4 87 (by omega) (by omega) (by omega), hN 87 (by omega), rec_87], by rw [q5 3 (by omega) (by omega) (by omega) (by omega), hN2 3 (by omega) (by omega), rec_84, if_pos rfl], fun c a b d e => by rw [q4 c a b e, hN c a, rec_ne a d], fun k a b c d e => by rw [q5 k b c d e, hN2 k c d, rec_84, if_neg a]⟩
  skip
  refine x_aload_n dX6_days_0 rfl ?_
  refine y_callV0 okX6_faultOfDays lkX6_145 dX6_days_1 (by decide) rfl ((hfd.more (d' := 8) (by omega))) (by omega) (Nat.le_of_ble_eq_true rfl) rfl rfl (cat8 rfl) ?_
  refine x_bipushv (v := -4) dX6_days_4 (by decide) ?_
  refine x_icmp_eq 12 dX6_days_6 (by decide) (fun c_6 => ?_) (fun c_6 => ?_)
  · refine x_aload_n dX6_days_12 rfl ?_
    refine y_callV0 okX6_record lkX6_108 dX6_days_13 (by decide) rfl ((hrec.more (d' := 8) (by omega))) (by omega) (Nat.le_of_ble_eq_true rfl) rfl rfl (cat8 rfl) ?_
    refine x_aload_n dX6_days_16 rfl ?_
    refine y_getR fkX6_7 dX6_days_17 (by decide) rfl rfl ?_
    refine x_iconstv (v := 2) dX6_days_20 (by decide) ?_
    refine y_ialdn (j := 2) dX6_days_21 (by decide) rfl (by decide) (by decide) ?_
    rw [e85]
    refine x_istore_n dX6_days_22 (by decide) rfl ?_
    refine x_iconstv (v := 0) dX6_days_23 (by decide) ?_
    refine x_istore_n dX6_days_24 (by decide) rfl ?_
    refine x_iconstv (v := 1) dX6_days_25 (by decide) ?_
    refine x_istore_n dX6_days_26 (by decide) rfl ?_
    refine x_aload_n dX6_days_27 rfl ?_
    refine x_bipushv (v := -4) dX6_days_28 (by decide) ?_
    refine y_putI fkX6_25 dX6_days_30 (by decide) rfl rfl rfl rfl rfl ?_
    refine x_aload_n dX6_days_33 rfl ?_
    refine x_bipushv (v := -4) dX6_days_34 (by decide) ?_
    refine y_putI fkX6_29 dX6_days_36 (by decide) rfl rfl rfl rfl rfl ?_
    exact s9.more (by omega)
  · exact absurd rfl c_6
