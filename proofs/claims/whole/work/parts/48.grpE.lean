theorem r_at0k {M : Mem} {k : Nat} : Y 0 mX6_at 0 (lent 2 [.int (nI k), .int 0]) [] M (some (.int (nI (22 + 5 * k)))) M := by
  have h1 := r_at (M := M) (k := k) (w := 0)
  rw [show 22 + 5 * k + 0 = 22 + 5 * k by omega] at h1
  exact h1
theorem r_at1k {M : Mem} {k : Nat} : Y 0 mX6_at 0 (lent 2 [.int (nI k), .int 1]) [] M (some (.int (nI (23 + 5 * k)))) M := by
  have h1 := r_at (M := M) (k := k) (w := 1)
  rw [show 22 + 5 * k + 1 = 23 + 5 * k by omega] at h1
  exact h1
theorem r_at2k {M : Mem} {k : Nat} : Y 0 mX6_at 0 (lent 2 [.int (nI k), .int 2]) [] M (some (.int (nI (24 + 5 * k)))) M := by
  have h1 := r_at (M := M) (k := k) (w := 2)
  rw [show 22 + 5 * k + 2 = 24 + 5 * k by omega] at h1
  exact h1
theorem r_at3k {M : Mem} {k : Nat} : Y 0 mX6_at 0 (lent 2 [.int (nI k), .int 3]) [] M (some (.int (nI (25 + 5 * k)))) M := by
  have h1 := r_at (M := M) (k := k) (w := 3)
  rw [show 22 + 5 * k + 3 = 25 + 5 * k by omega] at h1
  exact h1
theorem r_at4k {M : Mem} {k : Nat} : Y 0 mX6_at 0 (lent 2 [.int (nI k), .int 4]) [] M (some (.int (nI (26 + 5 * k)))) M := by
  have h1 := r_at (M := M) (k := k) (w := 4)
  rw [show 22 + 5 * k + 4 = 26 + 5 * k by omega] at h1
  exact h1
theorem r_ofKind0k {M : Mem} {k : Nat} : Y 0 mX6_ofKind 0 (lent 2 [.int (nI k), .int 0]) [] M (some (.int (nI (10 + 2 * k)))) M := by
  have h1 := r_ofKind (M := M) (k := k) (w := 0)
  rw [show 10 + 2 * k + 0 = 10 + 2 * k by omega] at h1
  exact h1
theorem r_ofKind1k {M : Mem} {k : Nat} : Y 0 mX6_ofKind 0 (lent 2 [.int (nI k), .int 1]) [] M (some (.int (nI (11 + 2 * k)))) M := by
  have h1 := r_ofKind (M := M) (k := k) (w := 1)
  rw [show 10 + 2 * k + 1 = 11 + 2 * k by omega] at h1
  exact h1
theorem r_gets {M : Mem} {t k : Nat} {a : Int32} (ht : t < 7) (hk : k < 6) : Y 1 mX6_gets 0 (lent 4 [.ref 84, .int (nI t), .int (nI k), .int a]) [] M none (setR M 85 (getsV (M 85) t k a)) := by
  refine x_aload_n dX6_gets_0 rfl ?_
  refine y_getR fkX6_7 dX6_gets_1 (by decide) rfl rfl ?_
  refine x_iload_n dX6_gets_4 rfl ?_
  refine x_iconstv (v := 2) dX6_gets_5 (by decide) ?_
  refine y_callS (as := [_, _]) okX6_at lkX6_59 dX6_gets_6 rfl (r_at2k (k := t)) (by omega) rfl (by simp [Value.category]) (Nat.le_of_ble_eq_true rfl) (cat8 rfl) ?_
  refine x_iload_n dX6_gets_9 rfl ?_
  refine y_iastn (j := 24 + 5 * t) dX6_gets_10 (by decide) rfl (ixN (by omega)) (by omega) ?_
  refine x_aload_n dX6_gets_11 rfl ?_
  refine y_getR fkX6_7 dX6_gets_12 (by decide) rfl rfl ?_
  refine x_iload_n dX6_gets_15 rfl ?_
  refine x_iconstv (v := 3) dX6_gets_16 (by decide) ?_
  refine y_callS (as := [_, _]) okX6_at lkX6_59 dX6_gets_17 rfl (r_at3k (k := t)) (by omega) rfl (by simp [Value.category]) (Nat.le_of_ble_eq_true rfl) (cat8 rfl) ?_
  refine x_iload_n dX6_gets_20 rfl ?_
  refine y_iastn (j := 25 + 5 * t) dX6_gets_21 (by decide) rfl (ixN (by omega)) (by omega) ?_
  refine x_aload_n dX6_gets_22 rfl ?_
  refine y_getR fkX6_7 dX6_gets_23 (by decide) rfl rfl ?_
  refine x_iload_n dX6_gets_26 rfl ?_
  refine x_iconstv (v := 1) dX6_gets_27 (by decide) ?_
  refine y_callS (as := [_, _]) okX6_at lkX6_59 dX6_gets_28 rfl (r_at1k (k := t)) (by omega) rfl (by simp [Value.category]) (Nat.le_of_ble_eq_true rfl) (cat8 rfl) ?_
  refine x_dup2_ir dX6_gets_31 ?_
  refine y_ialdn (j := 23 + 5 * t) dX6_gets_32 (by decide) rfl (ixN (by omega)) (by omega) ?_
  refine x_iconstv (v := 1) dX6_gets_33 (by decide) ?_
  refine x_iload_n dX6_gets_34 rfl ?_
  refine x_ishl dX6_gets_35 ?_
  refine x_iconstv (v := -1) dX6_gets_36 (by decide) ?_
  refine x_ixor dX6_gets_37 ?_
  refine x_iand dX6_gets_38 ?_
  refine y_iastn (j := 23 + 5 * t) dX6_gets_39 (by decide) rfl (ixN (by omega)) (by omega) ?_
  refine x_aload_n dX6_gets_40 rfl ?_
  refine y_getR fkX6_7 dX6_gets_41 (by decide) rfl rfl ?_
  refine x_iload_n dX6_gets_44 rfl ?_
  refine x_iconstv (v := 4) dX6_gets_45 (by decide) ?_
  refine y_callS (as := [_, _]) okX6_at lkX6_59 dX6_gets_46 rfl (r_at4k (k := t)) (by omega) rfl (by simp [Value.category]) (Nat.le_of_ble_eq_true rfl) (cat8 rfl) ?_
  refine x_dup2_ir dX6_gets_49 ?_
  refine y_ialdn (j := 26 + 5 * t) dX6_gets_50 (by decide) rfl (ixN (by omega)) (by omega) ?_
  refine x_iconstv (v := 1) dX6_gets_51 (by decide) ?_
  refine x_iadd dX6_gets_52 ?_
  refine y_iastn (j := 26 + 5 * t) dX6_gets_53 (by decide) rfl (ixN (by omega)) (by omega) ?_
  refine x_aload_n dX6_gets_54 rfl ?_
  refine y_getR fkX6_7 dX6_gets_55 (by decide) rfl rfl ?_
  refine x_iload_n dX6_gets_58 rfl ?_
  refine x_iconstv (v := 1) dX6_gets_59 (by decide) ?_
  refine y_callS (as := [_, _]) okX6_ofKind lkX6_47 dX6_gets_60 rfl (r_ofKind1k (k := k)) (by omega) rfl (by simp [Value.category]) (Nat.le_of_ble_eq_true rfl) (cat8 rfl) ?_
  refine x_dup2_ir dX6_gets_63 ?_
  refine y_ialdn (j := 11 + 2 * k) dX6_gets_64 (by decide) rfl (ixN (by omega)) (by omega) ?_
  refine x_iconstv (v := 1) dX6_gets_65 (by decide) ?_
  refine x_iadd dX6_gets_66 ?_
  refine y_iastn (j := 11 + 2 * k) dX6_gets_67 (by decide) rfl (ixN (by omega)) (by omega) ?_
  refine x_aload_n dX6_gets_68 rfl ?_
  refine y_getR fkX6_7 dX6_gets_69 (by decide) rfl rfl ?_
  refine x_iconstv (v := 2) dX6_gets_72 (by decide) ?_
  refine x_dup2_ir dX6_gets_73 ?_
  refine y_ialdn (j := 2) dX6_gets_74 (by decide) rfl (by decide) (by decide) ?_
  refine x_iconstv (v := 1) dX6_gets_75 (by decide) ?_
  refine x_iadd dX6_gets_76 ?_
  refine y_iastn (j := 2) dX6_gets_77 (by decide) rfl (by decide) (by decide) ?_
  exact y_vret dX6_gets_78 rfl (by simp only [updM_row, row_at, row_row]; rfl)
theorem r_comes {M : Mem} {mk w : Int32} (hn : M 85 1 = nI (nT (M 85))) (h6 : nT (M 85) < 7) : Y 1 mX6_comes 0 (lent 4 [.ref 84, .int mk, .int w]) [] M (some (.int (M 85 1))) (setR M 85 (comeV (M 85) mk w)) := by
  refine x_aload_n dX6_comes_0 rfl ?_
  refine y_getR fkX6_7 dX6_comes_1 (by decide) rfl rfl ?_
  refine x_iconstv (v := 1) dX6_comes_4 (by decide) ?_
  refine y_ialdn (j := 1) dX6_comes_5 (by decide) rfl (by decide) (by decide) ?_
  rw [hn]
  refine x_istore_n dX6_comes_6 (by decide) rfl ?_
  refine x_aload_n dX6_comes_7 rfl ?_
  refine y_getR fkX6_7 dX6_comes_8 (by decide) rfl rfl ?_
  refine x_iconstv (v := 1) dX6_comes_11 (by decide) ?_
  refine x_dup2_ir dX6_comes_12 ?_
  refine y_ialdn (j := 1) dX6_comes_13 (by decide) rfl (by decide) (by decide) ?_
  refine x_iconstv (v := 1) dX6_comes_14 (by decide) ?_
  refine x_iadd dX6_comes_15 ?_
  refine y_iastn (j := 1) dX6_comes_16 (by decide) rfl (by decide) (by decide) ?_
  refine x_aload_n dX6_comes_17 rfl ?_
  refine y_getR fkX6_7 dX6_comes_18 (by decide) rfl rfl ?_
  refine x_iload_n dX6_comes_21 rfl ?_
  refine x_iconstv (v := 0) dX6_comes_22 (by decide) ?_
  refine y_callS (as := [_, _]) okX6_at lkX6_59 dX6_comes_23 rfl (r_at0k (k := nT (M 85))) (by omega) rfl (by simp [Value.category]) (Nat.le_of_ble_eq_true rfl) (cat8 rfl) ?_
  refine x_iload_n dX6_comes_26 rfl ?_
  refine y_iastn (j := 22 + 5 * nT (M 85)) dX6_comes_27 (by decide) rfl (ixN (by omega)) (by omega) ?_
  refine x_aload_n dX6_comes_28 rfl ?_
  refine y_getR fkX6_7 dX6_comes_29 (by decide) rfl rfl ?_
  refine x_iload_n dX6_comes_32 rfl ?_
  refine x_iconstv (v := 1) dX6_comes_33 (by decide) ?_
  refine y_callS (as := [_, _]) okX6_at lkX6_59 dX6_comes_34 rfl (r_at1k (k := nT (M 85))) (by omega) rfl (by simp [Value.category]) (Nat.le_of_ble_eq_true rfl) (cat8 rfl) ?_
  refine x_iload_n dX6_comes_37 rfl ?_
  refine y_iastn (j := 23 + 5 * nT (M 85)) dX6_comes_38 (by decide) rfl (ixN (by omega)) (by omega) ?_
  refine x_aload_n dX6_comes_39 rfl ?_
  refine y_getR fkX6_7 dX6_comes_40 (by decide) rfl rfl ?_
  refine x_iload_n dX6_comes_43 rfl ?_
  refine x_iconstv (v := 2) dX6_comes_44 (by decide) ?_
  refine y_callS (as := [_, _]) okX6_at lkX6_59 dX6_comes_45 rfl (r_at2k (k := nT (M 85))) (by omega) rfl (by simp [Value.category]) (Nat.le_of_ble_eq_true rfl) (cat8 rfl) ?_
  refine x_iload_n dX6_comes_48 rfl ?_
  refine y_iastn (j := 24 + 5 * nT (M 85)) dX6_comes_49 (by decide) rfl (ixN (by omega)) (by omega) ?_
  refine x_aload_n dX6_comes_50 rfl ?_
  refine y_getR fkX6_7 dX6_comes_51 (by decide) rfl rfl ?_
  refine x_iload_n dX6_comes_54 rfl ?_
  refine x_iconstv (v := 3) dX6_comes_55 (by decide) ?_
  refine y_callS (as := [_, _]) okX6_at lkX6_59 dX6_comes_56 rfl (r_at3k (k := nT (M 85))) (by omega) rfl (by simp [Value.category]) (Nat.le_of_ble_eq_true rfl) (cat8 rfl) ?_
  refine x_iconstv (v := 0) dX6_comes_59 (by decide) ?_
  refine y_iastn (j := 25 + 5 * nT (M 85)) dX6_comes_60 (by decide) rfl (ixN (by omega)) (by omega) ?_
  refine x_aload_n dX6_comes_61 rfl ?_
  refine y_getR fkX6_7 dX6_comes_62 (by decide) rfl rfl ?_
  refine x_iload_n dX6_comes_65 rfl ?_
  refine x_iconstv (v := 4) dX6_comes_66 (by decide) ?_
  refine y_callS (as := [_, _]) okX6_at lkX6_59 dX6_comes_67 rfl (r_at4k (k := nT (M 85))) (by omega) rfl (by simp [Value.category]) (Nat.le_of_ble_eq_true rfl) (cat8 rfl) ?_
  refine x_iconstv (v := 0) dX6_comes_70 (by decide) ?_
  refine y_iastn (j := 26 + 5 * nT (M 85)) dX6_comes_71 (by decide) rfl (ixN (by omega)) (by omega) ?_
  refine x_aload_n dX6_comes_72 rfl ?_
  refine y_getR fkX6_7 dX6_comes_73 (by decide) rfl rfl ?_
  refine x_iconstv (v := 4) dX6_comes_76 (by decide) ?_
  refine x_dup2_ir dX6_comes_77 ?_
  refine y_ialdn (j := 4) dX6_comes_78 (by decide) rfl (by decide) (by decide) ?_
  refine x_iconstv (v := 1) dX6_comes_79 (by decide) ?_
  refine x_iadd dX6_comes_80 ?_
  refine y_iastn (j := 4) dX6_comes_81 (by decide) rfl (by decide) (by decide) ?_
  refine x_iload_n dX6_comes_82 rfl ?_
  exact y_ret dX6_comes_83 rfl (rfl) (rfl) (by simp only [updM_row, row_at, row_row]; rfl)
