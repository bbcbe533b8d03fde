theorem r_dlt {M : Mem} {W : Row} (hW : WF W) {j : Nat} (hj : j < nT W) : Y 2 mX6_daysLeft 0 (lent 3 [.ref 84, .int (nI j)]) [] (setR M 85 W) (some (.int (dl W j))) (setR M 85 W) := by
  have e : setR M 85 W 85 = W := row_at
  have h := r_daysLeft (M := setR M 85 W) (by rw [e]; exact hW) (j := j) (by rw [e]; exact hj)
  rw [e] at h
  exact h
theorem r_passes_loop {M : Mem} (hG : Good (M 85)) {M9 : Mem} {r : Option Value} (hx : Y 3 mX6_passes 82 [some (.ref 84), some (.int (pl (M 85) (nT (M 85))).2), some (.int (nI (nT (M 85))))] [] (setR M 85 (pl (M 85) (nT (M 85))).1) r M9) : ∀ (fu i : Nat), i ≤ nT (M 85) → nT (M 85) - i < fu → Y 3 mX6_passes 14 [some (.ref 84), some (.int (pl (M 85) i).2), some (.int (nI i))] [] (setR M 85 (pl (M 85) i).1) r M9 := by
  have hV := hG.1
  intro fu
  induction fu with
  | zero => intro i h1 h2; omega
  | succ fu ih =>
    intro i h1 h2
    obtain ⟨hn1, hn2⟩ := WF_n hV
    have hWG := Good_pl hG h1
    have hW := hWG.1
    have hp1 : (pl (M 85) i).1 1 = M 85 1 := by
      have a1 := (WF_n hW).2
      rw [nT_pl] at a1
      rw [a1, ← hn2]
    by_cases hlt : i < nT (M 85)
    · have hni : i < nT (ps1 (pl (M 85) i).1 i) := by unfold ps1; rw [nT_upd (by omega), nT_pl]; exact hlt
      have hdl := r_dlt (M := M) (ps1_in (i := i) hWG) hni
      have hi := ih (i + 1) (by omega) (by omega)
      by_cases hz : dl (ps1 (pl (M 85) i).1 i) i = 0
      · have e1 : pl (M 85) (i + 1) = (ps2 (ps1 (pl (M 85) i).1 i) i, (pl (M 85) i).2 + 1) := by rw [pl, if_pos hz]
        rw [e1] at hi
        skip
        refine x_iload_n dX6_passes_14 rfl ?_
        refine x_aload_n dX6_passes_15 rfl ?_
        refine y_getR fkX6_7 dX6_passes_16 (by decide) rfl rfl ?_
        refine x_iconstv (v := 1) dX6_passes_19 (by decide) ?_
        refine y_ialdn (j := 1) dX6_passes_20 (by decide) rfl (by decide) (by decide) ?_
        rw [row_at, hp1]
        refine x_icmp_ge 82 dX6_passes_21 (by decide) (fun c_21 => ?_) (fun c_21 => ?_)
        · exact absurd (lp_eq hV rfl h1 c_21) (by omega)
        · refine x_aload_n dX6_passes_24 rfl ?_
          refine y_getR fkX6_7 dX6_passes_25 (by decide) rfl rfl ?_
          refine x_iload_n dX6_passes_28 rfl ?_
          refine x_iconstv (v := 3) dX6_passes_29 (by decide) ?_
          refine y_callS (as := [_, _]) okX6_at lkX6_59 dX6_passes_30 rfl (r_at3k (k := i)) (by omega) rfl (by simp [Value.category]) (Nat.le_of_ble_eq_true rfl) (cat8 rfl) ?_
          refine x_dup2_ir dX6_passes_33 ?_
          refine y_ialdn (j := 25 + 5 * i) dX6_passes_34 (by decide) rfl (ixN (by omega)) (by omega) ?_
          refine x_iconstv (v := 1) dX6_passes_35 (by decide) ?_
          refine x_iadd dX6_passes_36 ?_
          refine y_iastn (j := 25 + 5 * i) dX6_passes_37 (by decide) rfl (ixN (by omega)) (by omega) ?_
          simp only [updM_row, row_at, row_row]
          rw [show upd (pl (M 85) i).1 (25 + 5 * i) ((pl (M 85) i).1 (25 + 5 * i) + 1) = ps1 (pl (M 85) i).1 i from rfl]
          refine x_aload_n dX6_passes_38 rfl ?_
          refine x_iload_n dX6_passes_39 rfl ?_
          refine y_callV (as := [_]) okX6_daysLeft lkX6_68 dX6_passes_40 rfl (by decide) rfl (hdl) (by omega) rfl (by simp [Value.category]) (Nat.le_of_ble_eq_true rfl) rfl rfl (cat8 rfl) ?_
          refine x_if_ne 76 dX6_passes_43 (by decide) (fun c_43 => ?_) (fun c_43 => ?_)
          · exact absurd hz c_43
          · refine x_aload_n dX6_passes_46 rfl ?_
            refine y_getR fkX6_7 dX6_passes_47 (by decide) rfl rfl ?_
            refine x_iload_n dX6_passes_50 rfl ?_
            refine x_iconstv (v := 2) dX6_passes_51 (by decide) ?_
            refine y_callS (as := [_, _]) okX6_at lkX6_59 dX6_passes_52 rfl (r_at2k (k := i)) (by omega) rfl (by simp [Value.category]) (Nat.le_of_ble_eq_true rfl) (cat8 rfl) ?_
            refine x_aload_n dX6_passes_55 rfl ?_
            refine x_iload_n dX6_passes_56 rfl ?_
            refine x_iconstv (v := 0) dX6_passes_57 (by decide) ?_
            refine y_callV (as := [_, _]) okX6_of lkX6_65 dX6_passes_58 rfl (by decide) rfl (r_of0 (b6 hV hlt)) (by omega) rfl (by simp [Value.category]) (Nat.le_of_ble_eq_true rfl) rfl rfl (cat8 rfl) ?_
            refine y_iastn (j := 24 + 5 * i) dX6_passes_61 (by decide) rfl (ixN (by omega)) (by omega) ?_
            refine x_aload_n dX6_passes_62 rfl ?_
            refine y_getR fkX6_7 dX6_passes_63 (by decide) rfl rfl ?_
            refine x_iload_n dX6_passes_66 rfl ?_
            refine x_iconstv (v := 3) dX6_passes_67 (by decide) ?_
            refine y_callS (as := [_, _]) okX6_at lkX6_59 dX6_passes_68 rfl (r_at3k (k := i)) (by omega) rfl (by simp [Value.category]) (Nat.le_of_ble_eq_true rfl) (cat8 rfl) ?_
            refine x_iconstv (v := 0) dX6_passes_71 (by decide) ?_
            refine y_iastn (j := 25 + 5 * i) dX6_passes_72 (by decide) rfl (ixN (by omega)) (by omega) ?_
            simp only [updM_row, row_at, row_row]
            rw [show upd (upd (ps1 (pl (M 85) i).1 i) (24 + 5 * i) (ps1 (pl (M 85) i).1 i (22 + 5 * i))) (25 + 5 * i) 0 = ps2 (ps1 (pl (M 85) i).1 i) i from rfl]
            refine x_iincv (v := 1) dX6_passes_73 rfl (by decide) rfl (by decide) ?_
            refine x_iincv (v := 1) dX6_passes_76 rfl (by decide) rfl (by decide) ?_
            refine x_goto 14 dX6_passes_79 (by decide) ?_
            rw [nI_1]
            exact hi
      · have e1 : pl (M 85) (i + 1) = (ps1 (pl (M 85) i).1 i, (pl (M 85) i).2) := by rw [pl, if_neg hz]
        rw [e1] at hi
        skip
        refine x_iload_n dX6_passes_14 rfl ?_
        refine x_aload_n dX6_passes_15 rfl ?_
        refine y_getR fkX6_7 dX6_passes_16 (by decide) rfl rfl ?_
        refine x_iconstv (v := 1) dX6_passes_19 (by decide) ?_
        refine y_ialdn (j := 1) dX6_passes_20 (by decide) rfl (by decide) (by decide) ?_
        rw [row_at, hp1]
        refine x_icmp_ge 82 dX6_passes_21 (by decide) (fun c_21 => ?_) (fun c_21 => ?_)
        · exact absurd (lp_eq hV rfl h1 c_21) (by omega)
        · refine x_aload_n dX6_passes_24 rfl ?_
          refine y_getR fkX6_7 dX6_passes_25 (by decide) rfl rfl ?_
          refine x_iload_n dX6_passes_28 rfl ?_
          refine x_iconstv (v := 3) dX6_passes_29 (by decide) ?_
          refine y_callS (as := [_, _]) okX6_at lkX6_59 dX6_passes_30 rfl (r_at3k (k := i)) (by omega) rfl (by simp [Value.category]) (Nat.le_of_ble_eq_true rfl) (cat8 rfl) ?_
          refine x_dup2_ir dX6_passes_33 ?_
          refine y_ialdn (j := 25 + 5 * i) dX6_passes_34 (by decide) rfl (ixN (by omega)) (by omega) ?_
          refine x_iconstv (v := 1) dX6_passes_35 (by decide) ?_
          refine x_iadd dX6_passes_36 ?_
          refine y_iastn (j := 25 + 5 * i) dX6_passes_37 (by decide) rfl (ixN (by omega)) (by omega) ?_
          simp only [updM_row, row_at, row_row]
          rw [show upd (pl (M 85) i).1 (25 + 5 * i) ((pl (M 85) i).1 (25 + 5 * i) + 1) = ps1 (pl (M 85) i).1 i from rfl]
          refine x_aload_n dX6_passes_38 rfl ?_
          refine x_iload_n dX6_passes_39 rfl ?_
          refine y_callV (as := [_]) okX6_daysLeft lkX6_68 dX6_passes_40 rfl (by decide) rfl (hdl) (by omega) rfl (by simp [Value.category]) (Nat.le_of_ble_eq_true rfl) rfl rfl (cat8 rfl) ?_
          refine x_if_ne 76 dX6_passes_43 (by decide) (fun c_43 => ?_) (fun c_43 => ?_)
          · refine x_iincv (v := 1) dX6_passes_76 rfl (by decide) rfl (by decide) ?_
            refine x_goto 14 dX6_passes_79 (by decide) ?_
            rw [nI_1]
            exact hi
          · exact absurd c_43 hz
    · have he : i = nT (M 85) := by omega
      subst he
      skip
      refine x_iload_n dX6_passes_14 rfl ?_
      refine x_aload_n dX6_passes_15 rfl ?_
      refine y_getR fkX6_7 dX6_passes_16 (by decide) rfl rfl ?_
      refine x_iconstv (v := 1) dX6_passes_19 (by decide) ?_
      refine y_ialdn (j := 1) dX6_passes_20 (by decide) rfl (by decide) (by decide) ?_
      rw [row_at, hp1]
      refine x_icmp_ge 82 dX6_passes_21 (by decide) (fun c_21 => ?_) (fun c_21 => ?_)
      · exact hx
      · exact absurd (lp_lt hV rfl h1 c_21) (by omega)
theorem r_passes {M : Mem} (hG : Good (M 85)) : Y 3 mX6_passes 0 (lent 3 [.ref 84]) [] M (some (.int (thrV (M 85)))) (setR M 85 (passV (M 85))) := by
  have hV := hG.1
  obtain ⟨hn1, hn2⟩ := WF_n hV
  have hQ := WF_q hG (Nat.le_refl (nT (M 85)))
  have hd0 : ¬ pd3 (qV (M 85) (nT (M 85))) 1 + 1 = 0 := by
    have a1 := (WF_n hQ).2
    rw [nT_q] at a1
    rw [show pd3 (qV (M 85) (nT (M 85))) 1 = (qV (M 85) (nT (M 85))) 1 from by unfold pd3; exact pk_un (by omega), a1, nI_1]
    exact nI_ne0 (by omega) (by omega)
  have hpass : passV (M 85) = upd (pd3 (qV (M 85) (nT (M 85)))) 9 (if shx (pd3 (qV (M 85) (nT (M 85)))) < pd3 (qV (M 85) (nT (M 85))) 1 then shx (pd3 (qV (M 85) (nT (M 85)))) else -4) := rfl
  have hx : Y 3 mX6_passes 82 [some (.ref 84), some (.int (pl (M 85) (nT (M 85))).2), some (.int (nI (nT (M 85))))] [] (setR M 85 (pl (M 85) (nT (M 85))).1) (some (.int (thrV (M 85)))) (setR M 85 (passV (M 85))) := by
    skip
    refine x_aload_n dX6_passes_82 rfl ?_
    refine y_getR fkX6_7 dX6_passes_83 (by decide) rfl rfl ?_
    refine x_iconstv (v := 3) dX6_passes_86 (by decide) ?_
    refine x_dup2_ir dX6_passes_87 ?_
    refine y_ialdn (j := 3) dX6_passes_88 (by decide) rfl (by decide) (by decide) ?_
    refine x_iload_n dX6_passes_89 rfl ?_
    refine x_iadd dX6_passes_90 ?_
    refine y_iastn (j := 3) dX6_passes_91 (by decide) rfl (by decide) (by decide) ?_
    refine x_aload_n dX6_passes_92 rfl ?_
    refine y_getR fkX6_7 dX6_passes_93 (by decide) rfl rfl ?_
    refine x_iconstv (v := 4) dX6_passes_96 (by decide) ?_
    refine x_dup2_ir dX6_passes_97 ?_
    refine y_ialdn (j := 4) dX6_passes_98 (by decide) rfl (by decide) (by decide) ?_
    refine x_iload_n dX6_passes_99 rfl ?_
    refine x_iadd dX6_passes_100 ?_
    refine y_iastn (j := 4) dX6_passes_101 (by decide) rfl (by decide) (by decide) ?_
    simp only [updM_row, row_at, row_row]
    rw [show upd (upd (pl (M 85) (nT (M 85))).1 3 ((pl (M 85) (nT (M 85))).1 3 + (pl (M 85) (nT (M 85))).2)) 4 (upd (pl (M 85) (nT (M 85))).1 3 ((pl (M 85) (nT (M 85))).1 3 + (pl (M 85) (nT (M 85))).2) 4 + (pl (M 85) (nT (M 85))).2) = (qV (M 85) (nT (M 85))) from rfl]
    refine x_aload_n dX6_passes_102 rfl ?_
    refine y_getR fkX6_7 dX6_passes_103 (by decide) rfl rfl ?_
    refine x_bipushv (v := 8) dX6_passes_106 (by decide) ?_
    refine x_sipushv (v := 421) dX6_passes_108 (by decide) ?_
    refine x_aload_n dX6_passes_111 rfl ?_
    refine y_getR fkX6_7 dX6_passes_112 (by decide) rfl rfl ?_
    refine x_bipushv (v := 8) dX6_passes_115 (by decide) ?_
    refine y_ialdn (j := 8) dX6_passes_117 (by decide) rfl (by decide) (by decide) ?_
    rw [row_at]
    refine x_imul dX6_passes_118 ?_
    refine x_sipushv (v := 1663) dX6_passes_119 (by decide) ?_
    refine x_iadd dX6_passes_122 ?_
    refine x_sipushv (v := 10000) dX6_passes_123 (by decide) ?_
    refine x_irem (by decide) dX6_passes_126 ?_
    refine y_iastn (j := 8) dX6_passes_127 (by decide) rfl (by decide) (by decide) ?_
    simp only [updM_row, row_at, row_row]
    rw [show upd (qV (M 85) (nT (M 85))) 8 (421 * (qV (M 85) (nT (M 85))) 8 + 1663 - (421 * (qV (M 85) (nT (M 85))) 8 + 1663) / 10000 * 10000) = pd3 (qV (M 85) (nT (M 85))) from rfl]
    refine x_aload_n dX6_passes_128 rfl ?_
    refine y_getR fkX6_7 dX6_passes_129 (by decide) rfl rfl ?_
    refine x_bipushv (v := 8) dX6_passes_132 (by decide) ?_
    refine y_ialdn (j := 8) dX6_passes_134 (by decide) rfl (by decide) (by decide) ?_
    rw [row_at]
    refine x_aload_n dX6_passes_135 rfl ?_
    refine y_getR fkX6_7 dX6_passes_136 (by decide) rfl rfl ?_
    refine x_iconstv (v := 1) dX6_passes_139 (by decide) ?_
    refine y_ialdn (j := 1) dX6_passes_140 (by decide) rfl (by decide) (by decide) ?_
    rw [row_at]
    refine x_iconstv (v := 1) dX6_passes_141 (by decide) ?_
    refine x_iadd dX6_passes_142 ?_
    refine x_irem hd0 dX6_passes_143 ?_
    rw [show pd3 (qV (M 85) (nT (M 85))) 8 - pd3 (qV (M 85) (nT (M 85))) 8 / (pd3 (qV (M 85) (nT (M 85))) 1 + 1) * (pd3 (qV (M 85) (nT (M 85))) 1 + 1) = shx (pd3 (qV (M 85) (nT (M 85)))) from rfl]
    refine x_istore_n dX6_passes_144 (by decide) rfl ?_
    refine x_aload_n dX6_passes_145 rfl ?_
    refine y_getR fkX6_7 dX6_passes_146 (by decide) rfl rfl ?_
    refine x_bipushv (v := 9) dX6_passes_149 (by decide) ?_
    refine x_iload_n dX6_passes_151 rfl ?_
    refine x_aload_n dX6_passes_152 rfl ?_
    refine y_getR fkX6_7 dX6_passes_153 (by decide) rfl rfl ?_
    refine x_iconstv (v := 1) dX6_passes_156 (by decide) ?_
    refine y_ialdn (j := 1) dX6_passes_157 (by decide) rfl (by decide) (by decide) ?_
    rw [row_at]
    refine x_icmp_ge 165 dX6_passes_158 (by decide) (fun c_158 => ?_) (fun c_158 => ?_)
    · refine x_bipushv (v := -4) dX6_passes_165 (by decide) ?_
      refine y_iastn (j := 9) dX6_passes_167 (by decide) rfl (by decide) (by decide) ?_
      refine x_iload_n dX6_passes_168 rfl ?_
      exact y_ret dX6_passes_169 rfl (rfl) (rfl) (by rw [updM_row, row_at, row_row, hpass]; first | rw [if_pos (Int32.not_le.mp c_158)] | rw [if_neg (Int32.not_lt.mpr c_158)])
    · refine x_iload_n dX6_passes_161 rfl ?_
      refine x_goto 167 dX6_passes_162 (by decide) ?_
      refine y_iastn (j := 9) dX6_passes_167 (by decide) rfl (by decide) (by decide) ?_
      refine x_iload_n dX6_passes_168 rfl ?_
      exact y_ret dX6_passes_169 rfl (rfl) (rfl) (by rw [updM_row, row_at, row_row, hpass]; first | rw [if_pos (Int32.not_le.mp c_158)] | rw [if_neg (Int32.not_lt.mpr c_158)])
  have h := r_passes_loop hG hx (nT (M 85) + 1) 0 (by omega) (by omega)
  have e0 : (pl (M 85) 0) = (upd (M 85) 0 (M 85 0 + 1), 0) := rfl
  rw [e0] at h
  skip
  refine x_iconstv (v := 0) dX6_passes_0 (by decide) ?_
  refine x_istore_n dX6_passes_1 (by decide) rfl ?_
  refine x_aload_n dX6_passes_2 rfl ?_
  refine y_getR fkX6_7 dX6_passes_3 (by decide) rfl rfl ?_
  refine x_iconstv (v := 0) dX6_passes_6 (by decide) ?_
  refine x_dup2_ir dX6_passes_7 ?_
  refine y_ialdn (j := 0) dX6_passes_8 (by decide) rfl (by decide) (by decide) ?_
  refine x_iconstv (v := 1) dX6_passes_9 (by decide) ?_
  refine x_iadd dX6_passes_10 ?_
  refine y_iastn (j := 0) dX6_passes_11 (by decide) rfl (by decide) (by decide) ?_
  rw [updM_row]
  refine x_iconstv (v := 0) dX6_passes_12 (by decide) ?_
  refine x_istore_n dX6_passes_13 (by decide) rfl ?_
  exact h
