theorem y_copyFrom {o p : Nat} (hk : IsMk o) (hk2 : IsMk p) {M : Mem} : Y 1 mX2_copyFrom 0 (lent 2 [.ref o, .ref p]) [] M none (cfM M o p) := by
  refine x_aload_n dX2_copyFrom_0 rfl ?_
  refine y_getR fkX2_9 dX2_copyFrom_1 (hk2.1 0 (by decide)) (hk2.2 0 (by decide)) rfl ?_
  refine x_iconstv (v := 0) dX2_copyFrom_4 (by decide) ?_
  refine x_aload_n dX2_copyFrom_5 rfl ?_
  refine y_getR fkX2_9 dX2_copyFrom_6 (hk.1 0 (by decide)) (hk.2 0 (by decide)) rfl ?_
  refine x_iconstv (v := 0) dX2_copyFrom_9 (by decide) ?_
  refine x_bipushv (v := 7) dX2_copyFrom_10 (by decide) ?_
  refine y_copy dX2_copyFrom_12 lkX2_55 (by decide) (hk2.1 1 (by decide)) (hk.1 1 (by decide)) (hk2.2 1 (by decide)) (hk.2 1 (by decide)) (by decide) (by decide) (by decide) (cat8 rfl) ?_
  refine x_aload_n dX2_copyFrom_15 rfl ?_
  refine y_getR fkX2_15 dX2_copyFrom_16 (hk2.1 0 (by decide)) (hk2.2 0 (by decide)) rfl ?_
  refine x_iconstv (v := 0) dX2_copyFrom_19 (by decide) ?_
  refine x_aload_n dX2_copyFrom_20 rfl ?_
  refine y_getR fkX2_15 dX2_copyFrom_21 (hk.1 0 (by decide)) (hk.2 0 (by decide)) rfl ?_
  refine x_iconstv (v := 0) dX2_copyFrom_24 (by decide) ?_
  refine x_bipushv (v := 7) dX2_copyFrom_25 (by decide) ?_
  refine y_copy dX2_copyFrom_27 lkX2_55 (by decide) (hk2.1 2 (by decide)) (hk.1 2 (by decide)) (hk2.2 2 (by decide)) (hk.2 2 (by decide)) (by decide) (by decide) (by decide) (cat8 rfl) ?_
  refine x_aload_n dX2_copyFrom_30 rfl ?_
  refine y_getR fkX2_18 dX2_copyFrom_31 (hk2.1 0 (by decide)) (hk2.2 0 (by decide)) rfl ?_
  refine x_iconstv (v := 0) dX2_copyFrom_34 (by decide) ?_
  refine x_aload_n dX2_copyFrom_35 rfl ?_
  refine y_getR fkX2_18 dX2_copyFrom_36 (hk.1 0 (by decide)) (hk.2 0 (by decide)) rfl ?_
  refine x_iconstv (v := 0) dX2_copyFrom_39 (by decide) ?_
  refine x_bipushv (v := 7) dX2_copyFrom_40 (by decide) ?_
  refine y_copy dX2_copyFrom_42 lkX2_55 (by decide) (hk2.1 3 (by decide)) (hk.1 3 (by decide)) (hk2.2 3 (by decide)) (hk.2 3 (by decide)) (by decide) (by decide) (by decide) (cat8 rfl) ?_
  refine x_aload_n dX2_copyFrom_45 rfl ?_
  refine y_getR fkX2_21 dX2_copyFrom_46 (hk2.1 0 (by decide)) (hk2.2 0 (by decide)) rfl ?_
  refine x_iconstv (v := 0) dX2_copyFrom_49 (by decide) ?_
  refine x_aload_n dX2_copyFrom_50 rfl ?_
  refine y_getR fkX2_21 dX2_copyFrom_51 (hk.1 0 (by decide)) (hk.2 0 (by decide)) rfl ?_
  refine x_iconstv (v := 0) dX2_copyFrom_54 (by decide) ?_
  refine x_bipushv (v := 7) dX2_copyFrom_55 (by decide) ?_
  refine y_copy dX2_copyFrom_57 lkX2_55 (by decide) (hk2.1 4 (by decide)) (hk.1 4 (by decide)) (hk2.2 4 (by decide)) (hk.2 4 (by decide)) (by decide) (by decide) (by decide) (cat8 rfl) ?_
  refine x_aload_n dX2_copyFrom_60 rfl ?_
  refine y_getR fkX2_24 dX2_copyFrom_61 (hk2.1 0 (by decide)) (hk2.2 0 (by decide)) rfl ?_
  refine x_iconstv (v := 0) dX2_copyFrom_64 (by decide) ?_
  refine x_aload_n dX2_copyFrom_65 rfl ?_
  refine y_getR fkX2_24 dX2_copyFrom_66 (hk.1 0 (by decide)) (hk.2 0 (by decide)) rfl ?_
  refine x_iconstv (v := 0) dX2_copyFrom_69 (by decide) ?_
  refine x_bipushv (v := 7) dX2_copyFrom_70 (by decide) ?_
  refine y_copy dX2_copyFrom_72 lkX2_55 (by decide) (hk2.1 5 (by decide)) (hk.1 5 (by decide)) (hk2.2 5 (by decide)) (hk.2 5 (by decide)) (by decide) (by decide) (by decide) (cat8 rfl) ?_
  refine x_aload_n dX2_copyFrom_75 rfl ?_
  refine y_getR fkX2_27 dX2_copyFrom_76 (hk2.1 0 (by decide)) (hk2.2 0 (by decide)) rfl ?_
  refine x_iconstv (v := 0) dX2_copyFrom_79 (by decide) ?_
  refine x_aload_n dX2_copyFrom_80 rfl ?_
  refine y_getR fkX2_27 dX2_copyFrom_81 (hk.1 0 (by decide)) (hk.2 0 (by decide)) rfl ?_
  refine x_iconstv (v := 0) dX2_copyFrom_84 (by decide) ?_
  refine x_bipushv (v := 6) dX2_copyFrom_85 (by decide) ?_
  refine y_copy dX2_copyFrom_87 lkX2_55 (by decide) (hk2.1 6 (by decide)) (hk.1 6 (by decide)) (hk2.2 6 (by decide)) (hk.2 6 (by decide)) (by decide) (by decide) (by decide) (cat8 rfl) ?_
  refine x_aload_n dX2_copyFrom_90 rfl ?_
  refine y_getR fkX2_30 dX2_copyFrom_91 (hk2.1 0 (by decide)) (hk2.2 0 (by decide)) rfl ?_
  refine x_iconstv (v := 0) dX2_copyFrom_94 (by decide) ?_
  refine x_aload_n dX2_copyFrom_95 rfl ?_
  refine y_getR fkX2_30 dX2_copyFrom_96 (hk.1 0 (by decide)) (hk.2 0 (by decide)) rfl ?_
  refine x_iconstv (v := 0) dX2_copyFrom_99 (by decide) ?_
  refine x_bipushv (v := 6) dX2_copyFrom_100 (by decide) ?_
  refine y_copy dX2_copyFrom_102 lkX2_55 (by decide) (hk2.1 7 (by decide)) (hk.1 7 (by decide)) (hk2.2 7 (by decide)) (hk.2 7 (by decide)) (by decide) (by decide) (by decide) (cat8 rfl) ?_
  refine x_aload_n dX2_copyFrom_105 rfl ?_
  refine x_aload_n dX2_copyFrom_106 rfl ?_
  refine y_getI fkX2_61 dX2_copyFrom_107 (hk2.1 0 (by decide)) (hk2.2 0 (by decide)) rfl ?_
  refine y_putI fkX2_61 dX2_copyFrom_110 (hk.1 0 (by decide)) (hk.2 0 (by decide)) rfl rfl rfl rfl ?_
  refine x_aload_n dX2_copyFrom_113 rfl ?_
  refine x_aload_n dX2_copyFrom_114 rfl ?_
  refine y_getI fkX2_33 dX2_copyFrom_115 (hk2.1 0 (by decide)) (hk2.2 0 (by decide)) rfl ?_
  refine y_putI fkX2_33 dX2_copyFrom_118 (hk.1 0 (by decide)) (hk.2 0 (by decide)) rfl rfl rfl rfl ?_
  refine x_aload_n dX2_copyFrom_121 rfl ?_
  refine x_aload_n dX2_copyFrom_122 rfl ?_
  refine y_getI fkX2_64 dX2_copyFrom_123 (hk2.1 0 (by decide)) (hk2.2 0 (by decide)) rfl ?_
  refine y_putI fkX2_64 dX2_copyFrom_126 (hk.1 0 (by decide)) (hk.2 0 (by decide)) rfl rfl rfl rfl ?_
  refine x_aload_n dX2_copyFrom_129 rfl ?_
  refine x_aload_n dX2_copyFrom_130 rfl ?_
  refine y_getI fkX2_37 dX2_copyFrom_131 (hk2.1 0 (by decide)) (hk2.2 0 (by decide)) rfl ?_
  refine y_putI fkX2_37 dX2_copyFrom_134 (hk.1 0 (by decide)) (hk.2 0 (by decide)) rfl rfl rfl rfl ?_
  refine x_aload_n dX2_copyFrom_137 rfl ?_
  refine x_aload_n dX2_copyFrom_138 rfl ?_
  refine y_getI fkX2_40 dX2_copyFrom_139 (hk2.1 0 (by decide)) (hk2.2 0 (by decide)) rfl ?_
  refine y_putI fkX2_40 dX2_copyFrom_142 (hk.1 0 (by decide)) (hk.2 0 (by decide)) rfl rfl rfl rfl ?_
  refine x_aload_n dX2_copyFrom_145 rfl ?_
  refine x_aload_n dX2_copyFrom_146 rfl ?_
  refine y_getI fkX2_67 dX2_copyFrom_147 (hk2.1 0 (by decide)) (hk2.2 0 (by decide)) rfl ?_
  refine y_putI fkX2_67 dX2_copyFrom_150 (hk.1 0 (by decide)) (hk.2 0 (by decide)) rfl rfl rfl rfl ?_
  refine x_aload_n dX2_copyFrom_153 rfl ?_
  refine x_aload_n dX2_copyFrom_154 rfl ?_
  refine y_getI fkX2_70 dX2_copyFrom_155 (hk2.1 0 (by decide)) (hk2.2 0 (by decide)) rfl ?_
  refine y_putI fkX2_70 dX2_copyFrom_158 (hk.1 0 (by decide)) (hk.2 0 (by decide)) rfl rfl rfl rfl ?_
  refine x_aload_n dX2_copyFrom_161 rfl ?_
  refine x_aload_n dX2_copyFrom_162 rfl ?_
  refine y_getI fkX2_73 dX2_copyFrom_163 (hk2.1 0 (by decide)) (hk2.2 0 (by decide)) rfl ?_
  refine y_putI fkX2_73 dX2_copyFrom_166 (hk.1 0 (by decide)) (hk.2 0 (by decide)) rfl rfl rfl rfl ?_
  refine x_aload_n dX2_copyFrom_169 rfl ?_
  refine x_aload_n dX2_copyFrom_170 rfl ?_
  refine y_getI fkX2_76 dX2_copyFrom_171 (hk2.1 0 (by decide)) (hk2.2 0 (by decide)) rfl ?_
  refine y_putI fkX2_76 dX2_copyFrom_174 (hk.1 0 (by decide)) (hk.2 0 (by decide)) rfl rfl rfl rfl ?_
  exact y_vret dX2_copyFrom_177 rfl (rfl)
theorem y_keepWares {o : Nat} (hk : IsMk o) {M : Mem} : Y 1 mX2_keepWares 0 (lent 1 [.ref o]) [] M none (kwM M o) := by
  refine x_aload_n dX2_keepWares_0 rfl ?_
  refine y_getR fkX2_18 dX2_keepWares_1 (hk.1 0 (by decide)) (hk.2 0 (by decide)) rfl ?_
  refine x_iconstv (v := 0) dX2_keepWares_4 (by decide) ?_
  refine x_aload_n dX2_keepWares_5 rfl ?_
  refine y_getR fkX2_43 dX2_keepWares_6 (hk.1 0 (by decide)) (hk.2 0 (by decide)) rfl ?_
  refine x_iconstv (v := 0) dX2_keepWares_9 (by decide) ?_
  refine x_bipushv (v := 7) dX2_keepWares_10 (by decide) ?_
  refine y_copy dX2_keepWares_12 lkX2_55 (by decide) (hk.1 3 (by decide)) (hk.1 8 (by decide)) (hk.2 3 (by decide)) (hk.2 8 (by decide)) (by decide) (by decide) (by decide) (cat8 rfl) ?_
  refine x_aload_n dX2_keepWares_15 rfl ?_
  refine y_getR fkX2_21 dX2_keepWares_16 (hk.1 0 (by decide)) (hk.2 0 (by decide)) rfl ?_
  refine x_iconstv (v := 0) dX2_keepWares_19 (by decide) ?_
  refine x_aload_n dX2_keepWares_20 rfl ?_
  refine y_getR fkX2_46 dX2_keepWares_21 (hk.1 0 (by decide)) (hk.2 0 (by decide)) rfl ?_
  refine x_iconstv (v := 0) dX2_keepWares_24 (by decide) ?_
  refine x_bipushv (v := 7) dX2_keepWares_25 (by decide) ?_
  refine y_copy dX2_keepWares_27 lkX2_55 (by decide) (hk.1 4 (by decide)) (hk.1 9 (by decide)) (hk.2 4 (by decide)) (hk.2 9 (by decide)) (by decide) (by decide) (by decide) (cat8 rfl) ?_
  exact y_vret dX2_keepWares_30 rfl (rfl)
theorem y_makeWare {o : Nat} (hk : IsMk o) {M : Mem} {j : Nat} (hj : j < 7) : Y 0 mX2_makeWare 0 (lent 2 [.ref o, .int (nI j)]) [] M none (mwM M o j) := by
  refine x_aload_n dX2_makeWare_0 rfl ?_
  refine y_getR fkX2_18 dX2_makeWare_1 (hk.1 0 (by decide)) (hk.2 0 (by decide)) rfl ?_
  refine x_iload_n dX2_makeWare_4 rfl ?_
  refine x_aload_n dX2_makeWare_5 rfl ?_
  refine y_getR fkX2_9 dX2_makeWare_6 (hk.1 0 (by decide)) (hk.2 0 (by decide)) rfl ?_
  refine x_iload_n dX2_makeWare_9 rfl ?_
  refine y_ialdn (j := j) dX2_makeWare_10 (hk.1 1 (by decide)) (hk.2 1 (by decide)) (ixN (by omega)) (by omega) ?_
  refine y_iastn (j := j) dX2_makeWare_11 (hk.1 3 (by decide)) (hk.2 3 (by decide)) (ixN (by omega)) (by omega) ?_
  refine x_aload_n dX2_makeWare_12 rfl ?_
  refine y_getR fkX2_21 dX2_makeWare_13 (hk.1 0 (by decide)) (hk.2 0 (by decide)) rfl ?_
  refine x_iload_n dX2_makeWare_16 rfl ?_
  refine x_iconstv (v := 0) dX2_makeWare_17 (by decide) ?_
  refine y_iastn (j := j) dX2_makeWare_18 (hk.1 4 (by decide)) (hk.2 4 (by decide)) (ixN (by omega)) (by omega) ?_
  refine x_aload_n dX2_makeWare_19 rfl ?_
  refine x_dup_r dX2_makeWare_20 ?_
  refine y_getI fkX2_70 dX2_makeWare_21 (hk.1 0 (by decide)) (hk.2 0 (by decide)) rfl ?_
  refine x_iconstv (v := 1) dX2_makeWare_24 (by decide) ?_
  refine x_iadd dX2_makeWare_25 ?_
  refine y_putI fkX2_70 dX2_makeWare_26 (hk.1 0 (by decide)) (hk.2 0 (by decide)) rfl rfl rfl rfl ?_
  exact y_vret dX2_makeWare_29 rfl (rfl)
theorem y_takeWare {o : Nat} (hk : IsMk o) {M : Mem} {V : Row} (hR : RM M o V) (hV : WF V) {t g k : Nat} (ht : t < nT V) (hg : g < nT V) (hk6 : k < 6) (hw : M (o + 8) g = nI k) : Y 1 mX2_takeWare 0 (lent 4 [.ref o, .int (nI t), .int (nI g)]) [] M none (twM M o t k (M (o + 9) g)) := by
  obtain ⟨hn1, hn2⟩ := WF_n hV
  have q0 : ¬ (o + 9 = o + 3) := by omega
  refine x_aload_n dX2_takeWare_0 rfl ?_
  refine x_iload_n dX2_takeWare_1 rfl ?_
  refine y_callV (as := [_]) okX2_has lkX2_79 dX2_takeWare_2 rfl (hk.1 0 (by decide)) (hk.2 0 (by decide)) (y_hasT hk hR hV ht) (by omega) rfl (by simp [Value.category]) (Nat.le_of_ble_eq_true rfl) rfl rfl (cat8 rfl) ?_
  refine x_if_eq 28 dX2_takeWare_5 (by decide) (fun c_5 => ?_) (fun c_5 => ?_)
  · exact absurd c_5 (by decide)
  · refine x_aload_n dX2_takeWare_8 rfl ?_
    refine x_iload_n dX2_takeWare_9 rfl ?_
    refine y_callV (as := [_]) okX2_has lkX2_79 dX2_takeWare_10 rfl (hk.1 0 (by decide)) (hk.2 0 (by decide)) (y_hasT hk hR hV hg) (by omega) rfl (by simp [Value.category]) (Nat.le_of_ble_eq_true rfl) rfl rfl (cat8 rfl) ?_
    refine x_if_eq 28 dX2_takeWare_13 (by decide) (fun c_13 => ?_) (fun c_13 => ?_)
    · exact absurd c_13 (by decide)
    · refine x_aload_n dX2_takeWare_16 rfl ?_
      refine y_getR fkX2_43 dX2_takeWare_17 (hk.1 0 (by decide)) (hk.2 0 (by decide)) rfl ?_
      refine x_iload_n dX2_takeWare_20 rfl ?_
      refine y_ialdn (j := g) dX2_takeWare_21 (hk.1 8 (by decide)) (hk.2 8 (by decide)) (ixN (by omega)) (by omega) ?_
      refine y_callSN (as := [_]) okX5_isKind nsX2_87 dX2_takeWare_22 rfl (y_isKindT (by rw [hw]; exact vp_in_nI hk6 (by decide))) (by omega) rfl (by simp [Value.category]) (Nat.le_of_ble_eq_true rfl) (cat8 rfl) ?_
      refine x_if_ne 29 dX2_takeWare_25 (by decide) (fun c_25 => ?_) (fun c_25 => ?_)
      · refine x_aload_n dX2_takeWare_29 rfl ?_
        refine y_getR fkX2_43 dX2_takeWare_30 (hk.1 0 (by decide)) (hk.2 0 (by decide)) rfl ?_
        refine x_iload_n dX2_takeWare_33 rfl ?_
        refine y_ialdn (j := g) dX2_takeWare_34 (hk.1 8 (by decide)) (hk.2 8 (by decide)) (ixN (by omega)) (by omega) ?_
        rw [hw]
        refine x_istore_n dX2_takeWare_35 (by decide) rfl ?_
        refine x_aload_n dX2_takeWare_36 rfl ?_
        refine y_getR fkX2_18 dX2_takeWare_37 (hk.1 0 (by decide)) (hk.2 0 (by decide)) rfl ?_
        refine x_iload_n dX2_takeWare_40 rfl ?_
        refine x_iload_n dX2_takeWare_41 rfl ?_
        refine y_iastn (j := t) dX2_takeWare_42 (hk.1 3 (by decide)) (hk.2 3 (by decide)) (ixN (by omega)) (by omega) ?_
        refine x_aload_n dX2_takeWare_43 rfl ?_
        refine y_getR fkX2_21 dX2_takeWare_44 (hk.1 0 (by decide)) (hk.2 0 (by decide)) rfl ?_
        refine x_iload_n dX2_takeWare_47 rfl ?_
        refine x_aload_n dX2_takeWare_48 rfl ?_
        refine y_getR fkX2_46 dX2_takeWare_49 (hk.1 0 (by decide)) (hk.2 0 (by decide)) rfl ?_
        refine x_iload_n dX2_takeWare_52 rfl ?_
        refine y_ialdn (j := g) dX2_takeWare_53 (hk.1 9 (by decide)) (hk.2 9 (by decide)) (ixN (by omega)) (by omega) ?_
        rw [updM_ne (M := M) (by omega)]
        refine y_iastn (j := t) dX2_takeWare_54 (hk.1 4 (by decide)) (hk.2 4 (by decide)) (ixN (by omega)) (by omega) ?_
        refine x_aload_n dX2_takeWare_55 rfl ?_
        refine y_getR fkX2_15 dX2_takeWare_56 (hk.1 0 (by decide)) (hk.2 0 (by decide)) rfl ?_
        refine x_iload_n dX2_takeWare_59 rfl ?_
        refine x_dup2_ir dX2_takeWare_60 ?_
        refine y_ialdn (j := t) dX2_takeWare_61 (hk.1 2 (by decide)) (hk.2 2 (by decide)) (ixN (by omega)) (by omega) ?_
        refine x_iconstv (v := 1) dX2_takeWare_62 (by decide) ?_
        refine x_iload_n dX2_takeWare_63 rfl ?_
        refine x_ishl dX2_takeWare_64 ?_
        refine x_iconstv (v := -1) dX2_takeWare_65 (by decide) ?_
        refine x_ixor dX2_takeWare_66 ?_
        refine x_iand dX2_takeWare_67 ?_
        refine y_iastn (j := t) dX2_takeWare_68 (hk.1 2 (by decide)) (hk.2 2 (by decide)) (ixN (by omega)) (by omega) ?_
        refine x_aload_n dX2_takeWare_69 rfl ?_
        refine y_getR fkX2_24 dX2_takeWare_70 (hk.1 0 (by decide)) (hk.2 0 (by decide)) rfl ?_
        refine x_iload_n dX2_takeWare_73 rfl ?_
        refine x_dup2_ir dX2_takeWare_74 ?_
        refine y_ialdn (j := t) dX2_takeWare_75 (hk.1 5 (by decide)) (hk.2 5 (by decide)) (ixN (by omega)) (by omega) ?_
        refine x_iconstv (v := 1) dX2_takeWare_76 (by decide) ?_
        refine x_iadd dX2_takeWare_77 ?_
        refine y_iastn (j := t) dX2_takeWare_78 (hk.1 5 (by decide)) (hk.2 5 (by decide)) (ixN (by omega)) (by omega) ?_
        refine x_aload_n dX2_takeWare_79 rfl ?_
        refine y_getR fkX2_30 dX2_takeWare_80 (hk.1 0 (by decide)) (hk.2 0 (by decide)) rfl ?_
        refine x_iload_n dX2_takeWare_83 rfl ?_
        refine x_dup2_ir dX2_takeWare_84 ?_
        refine y_ialdn (j := k) dX2_takeWare_85 (hk.1 7 (by decide)) (hk.2 7 (by decide)) (ixN (by omega)) (by omega) ?_
        refine x_iconstv (v := 1) dX2_takeWare_86 (by decide) ?_
        refine x_iadd dX2_takeWare_87 ?_
        refine y_iastn (j := k) dX2_takeWare_88 (hk.1 7 (by decide)) (hk.2 7 (by decide)) (ixN (by omega)) (by omega) ?_
        exact y_vret dX2_takeWare_89 rfl (rfl)
      · exact absurd c_25 (by decide)
