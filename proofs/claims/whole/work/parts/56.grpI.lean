theorem r_looks_loop {M : Mem} : ∀ (fu i : Nat), i ≤ 7 → 7 - i < fu → Y 2 mX6_looksAtWares 2 [some (.ref 84), some (.int (nI i))] [] (lwM M i) none (lwM M 7) := by
  intro fu
  induction fu with
  | zero => intro i h1 h2; omega
  | succ fu ih =>
    intro i h1 h2
    refine x_iload_n dX6_looksAtWares_2 rfl ?_
    refine x_bipushv (v := 7) dX6_looksAtWares_3 (by decide) ?_
    refine x_icmp_ge 38 dX6_looksAtWares_5 (by decide) (fun c_5 => ?_) (fun c_5 => ?_)
    · have he := eq7 h1 c_5
      subst he
      exact y_vret dX6_looksAtWares_38 rfl (rfl)
    · have hlt := lt7 h1 c_5
      refine x_aload_n dX6_looksAtWares_8 rfl ?_
      refine y_getR fkX6_41 dX6_looksAtWares_9 (by decide) rfl rfl ?_
      refine x_iload_n dX6_looksAtWares_12 rfl ?_
      refine x_aload_n dX6_looksAtWares_13 rfl ?_
      refine x_iload_n dX6_looksAtWares_14 rfl ?_
      refine x_iconstv (v := 2) dX6_looksAtWares_15 (by decide) ?_
      refine y_callV (as := [_, _]) okX6_of lkX6_65 dX6_looksAtWares_16 rfl (by decide) rfl (r_of2 (k := i) hlt) (by omega) rfl (by simp [Value.category]) (Nat.le_of_ble_eq_true rfl) rfl rfl (cat8 rfl) ?_
      refine y_iastn (j := i) dX6_looksAtWares_19 (by decide) rfl (ixN (by omega)) (by omega) ?_
      
      refine x_aload_n dX6_looksAtWares_20 rfl ?_
      refine y_getR fkX6_44 dX6_looksAtWares_21 (by decide) rfl rfl ?_
      refine x_iload_n dX6_looksAtWares_24 rfl ?_
      refine x_aload_n dX6_looksAtWares_25 rfl ?_
      refine x_iload_n dX6_looksAtWares_26 rfl ?_
      refine x_iconstv (v := 3) dX6_looksAtWares_27 (by decide) ?_
      refine y_callV (as := [_, _]) okX6_of lkX6_65 dX6_looksAtWares_28 rfl (by decide) rfl (r_of3 (k := i) hlt) (by omega) rfl (by simp [Value.category]) (Nat.le_of_ble_eq_true rfl) rfl rfl (cat8 rfl) ?_
      rw [updM_ne (k := 85) (by decide)]
      refine y_iastn (j := i) dX6_looksAtWares_31 (by decide) rfl (ixN (by omega)) (by omega) ?_
      refine x_iincv (v := 1) dX6_looksAtWares_32 rfl (by decide) rfl (by decide) ?_
      refine x_goto 2 dX6_looksAtWares_35 (by decide) ?_
      rw [lwM_85, lwM_s, nI_1]
      exact ih (i + 1) (by omega) (by omega)
theorem r_looks {M : Mem} : Y 2 mX6_looksAtWares 0 (lent 2 [.ref 84]) [] M none (lwM M 7) := by
  have h := r_looks_loop (M := M) 8 0 (by omega) (by omega)
  rw [lwM_0] at h
  refine x_iconstv (v := 0) dX6_looksAtWares_0 (by decide) ?_
  refine x_istore_n dX6_looksAtWares_1 (by decide) rfl ?_
  exact h
theorem lwM_93 {M : Mem} {t : Nat} (h : t < 7) : lwM M 7 93 t = M 85 (24 + 5 * t) := by
  unfold lwM
  rw [row_ne (by decide), row_at]
  simp [rowN, h, warR]
theorem lwM_94 {M : Mem} {t : Nat} (h : t < 7) : lwM M 7 94 t = M 85 (25 + 5 * t) := by
  unfold lwM
  rw [row_at]
  simp [rowN, h, ageR]
theorem r_barters {M : Mem} (hV : WF (M 85)) {a b : Nat} (ha : a < nT (M 85)) (hb : b < nT (M 85)) : ∃ M' : Mem, Y 4 mX6_barters 0 (lent 4 [.ref 84, .int (nI a), .int (nI b)]) [] M (some (.int (bartR (M 85) a b))) M' ∧ M' 85 = bartV (M 85) a b ∧ (∀ c, c ≠ 85 → c ≠ 93 → c ≠ 94 → M' c = M c) := by
  have h7a := b6 hV ha
  have h7b := b6 hV hb
  by_cases hz : rsn (M 85) a b = 0
  · have s1 := r_gets (M := lwM M 7) (a := M 85 (25 + 5 * b)) h7a (kd_lt hV hb)
    rw [lwM_85] at s1
    have s2 := r_gets (M := setR (lwM M 7) 85 (getsV (M 85) a (kd (M 85) b) (M 85 (25 + 5 * b)))) (a := M 85 (25 + 5 * a)) h7b (kd_lt hV ha)
    rw [row_at, row_row] at s2
    refine ⟨setR (lwM M 7) 85 (getsV (getsV (M 85) a (kd (M 85) b) (M 85 (25 + 5 * b))) b (kd (M 85) a) (M 85 (25 + 5 * a))), ?_, by rw [row_at]; simp only [bartV, if_pos hz], fun c c1 c2 c3 => by rw [row_ne c1]; unfold lwM; rw [row_ne c3, row_ne c2]⟩
    skip
    refine x_aload_n dX6_barters_0 rfl ?_
    refine x_iload_n dX6_barters_1 rfl ?_
    refine x_iload_n dX6_barters_2 rfl ?_
    refine y_callV (as := [_, _]) okX6_reason lkX6_102 dX6_barters_3 rfl (by decide) rfl (r_reason hV ha hb) (by omega) rfl (by simp [Value.category]) (Nat.le_of_ble_eq_true rfl) rfl rfl (cat8 rfl) ?_
    refine x_istore_n dX6_barters_6 (by decide) rfl ?_
    refine x_iload_n dX6_barters_7 rfl ?_
    refine x_if_le 24 dX6_barters_8 (by decide) (fun c_8 => ?_) (fun c_8 => ?_)
    · refine x_aload_n dX6_barters_24 rfl ?_
      refine y_callV0 okX6_looksAtWares lkX6_95 dX6_barters_25 (by decide) rfl (r_looks) (by omega) (Nat.le_of_ble_eq_true rfl) rfl rfl (cat8 rfl) ?_
      refine x_aload_n dX6_barters_28 rfl ?_
      refine x_iload_n dX6_barters_29 rfl ?_
      refine x_aload_n dX6_barters_30 rfl ?_
      refine y_getR fkX6_41 dX6_barters_31 (by decide) rfl rfl ?_
      refine x_iload_n dX6_barters_34 rfl ?_
      refine y_ialdn (j := b) dX6_barters_35 (by decide) rfl (ixN (by omega)) (by omega) ?_
      rw [lwM_93 h7b, kd_nI hV hb]
      refine x_aload_n dX6_barters_36 rfl ?_
      refine y_getR fkX6_44 dX6_barters_37 (by decide) rfl rfl ?_
      refine x_iload_n dX6_barters_40 rfl ?_
      refine y_ialdn (j := b) dX6_barters_41 (by decide) rfl (ixN (by omega)) (by omega) ?_
      rw [lwM_94 h7b]
      refine y_callV (as := [_, _, _]) okX6_gets lkX6_98 dX6_barters_42 rfl (by decide) rfl (s1) (by omega) rfl (by simp [Value.category]) (Nat.le_of_ble_eq_true rfl) rfl rfl (cat8 rfl) ?_
      refine x_aload_n dX6_barters_45 rfl ?_
      refine x_iload_n dX6_barters_46 rfl ?_
      refine x_aload_n dX6_barters_47 rfl ?_
      refine y_getR fkX6_41 dX6_barters_48 (by decide) rfl rfl ?_
      refine x_iload_n dX6_barters_51 rfl ?_
      refine y_ialdn (j := a) dX6_barters_52 (by decide) rfl (ixN (by omega)) (by omega) ?_
      rw [row_ne (by decide), lwM_93 h7a, kd_nI hV ha]
      refine x_aload_n dX6_barters_53 rfl ?_
      refine y_getR fkX6_44 dX6_barters_54 (by decide) rfl rfl ?_
      refine x_iload_n dX6_barters_57 rfl ?_
      refine y_ialdn (j := a) dX6_barters_58 (by decide) rfl (ixN (by omega)) (by omega) ?_
      rw [row_ne (by decide), lwM_94 h7a]
      refine y_callV (as := [_, _, _]) okX6_gets lkX6_98 dX6_barters_59 rfl (by decide) rfl (s2) (by omega) rfl (by simp [Value.category]) (Nat.le_of_ble_eq_true rfl) rfl rfl (cat8 rfl) ?_
      refine x_bipushv (v := 10) dX6_barters_62 (by decide) ?_
      exact y_ret dX6_barters_64 rfl (rfl) (by simp [bartR, hz]) (rfl)
    · exact absurd (by rw [hz]; decide) c_8
  · have hp : 0 < rsn (M 85) a b := (rsn_01 (M 85) a b).resolve_left hz
    refine ⟨setR M 85 (bartV (M 85) a b), ?_, row_at, fun c c1 _ _ => row_ne c1⟩
    skip
    refine x_aload_n dX6_barters_0 rfl ?_
    refine x_iload_n dX6_barters_1 rfl ?_
    refine x_iload_n dX6_barters_2 rfl ?_
    refine y_callV (as := [_, _]) okX6_reason lkX6_102 dX6_barters_3 rfl (by decide) rfl (r_reason hV ha hb) (by omega) rfl (by simp [Value.category]) (Nat.le_of_ble_eq_true rfl) rfl rfl (cat8 rfl) ?_
    refine x_istore_n dX6_barters_6 (by decide) rfl ?_
    refine x_iload_n dX6_barters_7 rfl ?_
    refine x_if_le 24 dX6_barters_8 (by decide) (fun c_8 => ?_) (fun c_8 => ?_)
    · exact absurd (Int32.lt_of_lt_of_le hp c_8) (by simp)
    · refine x_aload_n dX6_barters_11 rfl ?_
      refine y_getR fkX6_7 dX6_barters_12 (by decide) rfl rfl ?_
      refine x_bipushv (v := 6) dX6_barters_15 (by decide) ?_
      refine x_dup2_ir dX6_barters_17 ?_
      refine y_ialdn (j := 6) dX6_barters_18 (by decide) rfl (by decide) (by decide) ?_
      refine x_iconstv (v := 1) dX6_barters_19 (by decide) ?_
      refine x_iadd dX6_barters_20 ?_
      refine y_iastn (j := 6) dX6_barters_21 (by decide) rfl (by decide) (by decide) ?_
      refine x_iload_n dX6_barters_22 rfl ?_
      exact y_ret dX6_barters_23 rfl (rfl) (by simp [bartR, hz]) (by rw [updM_row]; simp only [bartV, if_neg hz])
theorem r_putAside_loop {M : Mem} : ∀ (fu i : Nat), i ≤ 57 → 57 - i < fu → Y 0 mX6_putAside 2 [some (.ref 84), some (.int (nI i))] [] (setR M 86 (rowN (M 85) i (M 86))) none (setR M 86 (rowN (M 85) 57 (M 86))) := by
  intro fu
  induction fu with
  | zero => intro i h1 h2; omega
  | succ fu ih =>
    intro i h1 h2
    refine x_iload_n dX6_putAside_2 rfl ?_
    refine x_bipushv (v := 57) dX6_putAside_3 (by decide) ?_
    refine x_icmp_ge 26 dX6_putAside_5 (by decide) (fun c_5 => ?_) (fun c_5 => ?_)
    · have he := eq57 h1 c_5
      subst he
      exact y_vret dX6_putAside_26 rfl (rfl)
    · have hlt := lt57 h1 c_5
      refine x_aload_n dX6_putAside_8 rfl ?_
      refine y_getR fkX6_13 dX6_putAside_9 (by decide) rfl rfl ?_
      refine x_iload_n dX6_putAside_12 rfl ?_
      refine x_aload_n dX6_putAside_13 rfl ?_
      refine y_getR fkX6_7 dX6_putAside_14 (by decide) rfl rfl ?_
      refine x_iload_n dX6_putAside_17 rfl ?_
      refine y_ialdn (j := i) dX6_putAside_18 (by decide) rfl (ixN (by omega)) (by omega) ?_
      refine y_iastn (j := i) dX6_putAside_19 (by decide) rfl (ixN (by omega)) (by omega) ?_
      refine x_iincv (v := 1) dX6_putAside_20 rfl (by decide) rfl (by decide) ?_
      refine x_goto 2 dX6_putAside_23 (by decide) ?_
      rw [row_ne (k := 85) (by decide), updM_row, row_at, row_row, rowN_s, nI_1]
      exact ih (i + 1) (by omega) (by omega)
theorem r_putAside {M : Mem} : Y 0 mX6_putAside 0 (lent 2 [.ref 84]) [] M none (setR M 86 (rowN (M 85) 57 (M 86))) := by
  have h := r_putAside_loop (M := M) 58 0 (by omega) (by omega)
  rw [rowN_0, row_self] at h
  refine x_iconstv (v := 0) dX6_putAside_0 (by decide) ?_
  refine x_istore_n dX6_putAside_1 (by decide) rfl ?_
  exact h
theorem r_putBack_loop {M : Mem} : ∀ (fu i : Nat), i ≤ 57 → 57 - i < fu → Y 0 mX6_putBack 2 [some (.ref 84), some (.int (nI i))] [] (setR M 85 (rowN (M 86) i (M 85))) none (setR M 85 (rowN (M 86) 57 (M 85))) := by
  intro fu
  induction fu with
  | zero => intro i h1 h2; omega
  | succ fu ih =>
    intro i h1 h2
    refine x_iload_n dX6_putBack_2 rfl ?_
    refine x_bipushv (v := 57) dX6_putBack_3 (by decide) ?_
    refine x_icmp_ge 26 dX6_putBack_5 (by decide) (fun c_5 => ?_) (fun c_5 => ?_)
    · have he := eq57 h1 c_5
      subst he
      exact y_vret dX6_putBack_26 rfl (rfl)
    · have hlt := lt57 h1 c_5
      refine x_aload_n dX6_putBack_8 rfl ?_
      refine y_getR fkX6_7 dX6_putBack_9 (by decide) rfl rfl ?_
      refine x_iload_n dX6_putBack_12 rfl ?_
      refine x_aload_n dX6_putBack_13 rfl ?_
      refine y_getR fkX6_13 dX6_putBack_14 (by decide) rfl rfl ?_
      refine x_iload_n dX6_putBack_17 rfl ?_
      refine y_ialdn (j := i) dX6_putBack_18 (by decide) rfl (ixN (by omega)) (by omega) ?_
      refine y_iastn (j := i) dX6_putBack_19 (by decide) rfl (ixN (by omega)) (by omega) ?_
      refine x_iincv (v := 1) dX6_putBack_20 rfl (by decide) rfl (by decide) ?_
      refine x_goto 2 dX6_putBack_23 (by decide) ?_
      rw [row_ne (k := 86) (by decide), updM_row, row_at, row_row, rowN_s, nI_1]
      exact ih (i + 1) (by omega) (by omega)
theorem r_putBack {M : Mem} : Y 0 mX6_putBack 0 (lent 2 [.ref 84]) [] M none (setR M 85 (rowN (M 86) 57 (M 85))) := by
  have h := r_putBack_loop (M := M) 58 0 (by omega) (by omega)
  rw [rowN_0, row_self] at h
  refine x_iconstv (v := 0) dX6_putBack_0 (by decide) ?_
  refine x_istore_n dX6_putBack_1 (by decide) rfl ?_
  exact h
theorem r_rec_loop1 {M : Mem} {M9 : Mem} (hx : Y 0 mX6_record 38 [some (.ref 84), some (.int (nI 171))] [] (setR M 87 (shN (M 87) 171)) none M9) : ∀ (fu i : Nat), i ≤ 171 → 171 - i < fu → Y 0 mX6_record 10 [some (.ref 84), some (.int (nI i))] [] (setR M 87 (shN (M 87) i)) none M9 := by
  intro fu
  induction fu with
  | zero => intro i h1 h2; omega
  | succ fu ih =>
    intro i h1 h2
    refine x_iload_n dX6_record_10 rfl ?_
    refine x_sipushv (v := 171) dX6_record_11 (by decide) ?_
    refine x_icmp_ge 38 dX6_record_14 (by decide) (fun c_14 => ?_) (fun c_14 => ?_)
    · have he := eq171 h1 c_14
      subst he
      exact hx
    · have hlt := lt171 h1 c_14
      refine x_aload_n dX6_record_17 rfl ?_
      refine y_getR fkX6_16 dX6_record_18 (by decide) rfl rfl ?_
      refine x_iload_n dX6_record_21 rfl ?_
      refine x_aload_n dX6_record_22 rfl ?_
      refine y_getR fkX6_16 dX6_record_23 (by decide) rfl rfl ?_
      refine x_iload_n dX6_record_26 rfl ?_
      refine x_bipushv (v := 57) dX6_record_27 (by decide) ?_
      refine x_iadd dX6_record_29 ?_
      rw [show (57 : Int32) = nI 57 from rfl, nI_add]
      refine y_ialdn (j := i + 57) dX6_record_30 (by decide) rfl (ixN (by omega)) (by omega) ?_
      rw [row_at]
      refine y_iastn (j := i) dX6_record_31 (by decide) rfl (ixN (by omega)) (by omega) ?_
      refine x_iincv (v := 1) dX6_record_32 rfl (by decide) rfl (by decide) ?_
      refine x_goto 10 dX6_record_35 (by decide) ?_
      rw [updM_row, row_at, row_row, shN_s, nI_1]
      exact ih (i + 1) (by omega) (by omega)
theorem r_rec_loop2 {M : Mem} {K : Nat} (hK : K ≤ 3) (hk : M 84 3 = nI K) : ∀ (fu i : Nat), i ≤ 57 → 57 - i < fu → Y 0 mX6_record 50 [some (.ref 84), some (.int (nI i))] [] (setR M 87 (ptN (M 87) (M 85) K i)) none (updM (setR M 87 (ptN (M 87) (M 85) K 57)) 84 3 (nI (K + 1))) := by
  intro fu
  induction fu with
  | zero => intro i h1 h2; omega
  | succ fu ih =>
    intro i h1 h2
    refine x_iload_n dX6_record_50 rfl ?_
    refine x_bipushv (v := 57) dX6_record_51 (by decide) ?_
    refine x_icmp_ge 82 dX6_record_53 (by decide) (fun c_53 => ?_) (fun c_53 => ?_)
    · have he := eq57 h1 c_53
      subst he
      refine x_aload_n dX6_record_82 rfl ?_
      refine x_dup_r dX6_record_83 ?_
      refine y_getI fkX6_62 dX6_record_84 (by decide) rfl rfl ?_
      rw [row_ne (k := 84) (by decide), hk]
      refine x_iconstv (v := 1) dX6_record_87 (by decide) ?_
      
      refine x_iadd dX6_record_88 ?_
      refine y_putI fkX6_62 dX6_record_89 (by decide) rfl rfl rfl rfl rfl ?_
      exact y_vret dX6_record_92 rfl (by rw [nI_1])
    · have hlt := lt57 h1 c_53
      refine x_aload_n dX6_record_56 rfl ?_
      refine y_getR fkX6_16 dX6_record_57 (by decide) rfl rfl ?_
      refine x_bipushv (v := 57) dX6_record_60 (by decide) ?_
      refine x_aload_n dX6_record_62 rfl ?_
      refine y_getI fkX6_62 dX6_record_63 (by decide) rfl rfl ?_
      rw [row_ne (k := 84) (by decide), hk]
      refine x_imul dX6_record_66 ?_
      refine x_iload_n dX6_record_67 rfl ?_
      refine x_iadd dX6_record_68 ?_
      rw [show (57 : Int32) = nI 57 from rfl, pk_mul, nI_add]
      refine x_aload_n dX6_record_69 rfl ?_
      refine y_getR fkX6_7 dX6_record_70 (by decide) rfl rfl ?_
      refine x_iload_n dX6_record_73 rfl ?_
      refine y_ialdn (j := i) dX6_record_74 (by decide) rfl (ixN (by omega)) (by omega) ?_
      rw [row_ne (k := 85) (by decide)]
      refine y_iastn (j := 57 * K + i) dX6_record_75 (by decide) rfl (ixN (by omega)) (by omega) ?_
      refine x_iincv (v := 1) dX6_record_76 rfl (by decide) rfl (by decide) ?_
      refine x_goto 50 dX6_record_79 (by decide) ?_
      rw [updM_row, row_at, row_row, ptN_s, nI_1]
      exact ih (i + 1) (by omega) (by omega)
theorem r_record {M : Mem} {K : Nat} (hK : K ≤ 4) (hk : M 84 3 = nI K) : Y 0 mX6_record 0 (lent 2 [.ref 84]) [] M none (recM M K) := by
  by_cases h4 : K = 4
  · subst h4
    have h2 := r_rec_loop2 (M := updM (setR M 87 (shN (M 87) 171)) 84 3 (nI 3)) (K := 3) (by omega) (by simp [updM]) 58 0 (by omega) (by omega)
    have e87 : updM (setR M 87 (shN (M 87) 171)) 84 3 (nI 3) 87 = shN (M 87) 171 := by rw [updM_ne (by decide), row_at]
    have e85 : updM (setR M 87 (shN (M 87) 171)) 84 3 (nI 3) 85 = M 85 := by rw [updM_ne (by decide), row_ne (by decide)]
    rw [e87, e85, ptN_0, su_1, su_2] at h2
    have e9 : updM (setR M 87 (ptN (shN (M 87) 171) (M 85) 3 57)) 84 3 (nI (3 + 1)) = recM M 4 := by
      unfold recM recH recK
      rw [if_pos rfl, if_pos rfl]
    rw [e9] at h2
    have h3 : Y 0 mX6_record 38 [some (.ref 84), some (.int (nI 171))] [] (setR M 87 (shN (M 87) 171)) none (recM M 4) := by
      skip
      refine x_aload_n dX6_record_38 rfl ?_
      refine x_dup_r dX6_record_39 ?_
      refine y_getI fkX6_62 dX6_record_40 (by decide) rfl rfl ?_
      rw [row_ne (k := 84) (by decide), hk]
      refine x_iconstv (v := 1) dX6_record_43 (by decide) ?_
      refine x_isub dX6_record_44 ?_
      rw [show nI 4 - 1 = nI 3 from by decide]
      refine y_putI fkX6_62 dX6_record_45 (by decide) rfl rfl rfl rfl rfl ?_
      refine x_iconstv (v := 0) dX6_record_48 (by decide) ?_
      refine x_istore_n dX6_record_49 (by decide) rfl ?_
      exact h2
    have h1 := r_rec_loop1 h3 172 0 (by omega) (by omega)
    rw [shN_0, row_self] at h1
    skip
    refine x_aload_n dX6_record_0 rfl ?_
    refine y_getI fkX6_62 dX6_record_1 (by decide) rfl rfl ?_
    rw [hk]
    refine x_iconstv (v := 4) dX6_record_4 (by decide) ?_
    refine x_icmp_ne 48 dX6_record_5 (by decide) (fun c_5 => ?_) (fun c_5 => ?_)
    · exact absurd rfl c_5
    · refine x_iconstv (v := 0) dX6_record_8 (by decide) ?_
      refine x_istore_n dX6_record_9 (by decide) rfl ?_
      exact h1
  · have h2 := r_rec_loop2 (M := M) (K := K) (by omega) hk 58 0 (by omega) (by omega)
    rw [ptN_0, row_self] at h2
    have e9 : updM (setR M 87 (ptN (M 87) (M 85) K 57)) 84 3 (nI (K + 1)) = recM M K := by
      unfold recM recH recK
      rw [if_neg h4, if_neg h4]
    rw [e9] at h2
    skip
    refine x_aload_n dX6_record_0 rfl ?_
    refine y_getI fkX6_62 dX6_record_1 (by decide) rfl rfl ?_
    rw [hk]
    refine x_iconstv (v := 4) dX6_record_4 (by decide) ?_
    refine x_icmp_ne 48 dX6_record_5 (by decide) (fun c_5 => ?_) (fun c_5 => ?_)
    · refine x_iconstv (v := 0) dX6_record_48 (by decide) ?_
      refine x_istore_n dX6_record_49 (by decide) rfl ?_
      exact h2
    · exact absurd ((nI_eq (a := K) (b := 4) (by omega) (by decide)).mp c_5) h4
