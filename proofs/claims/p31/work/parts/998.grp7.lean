theorem p_fill_loop {N a n : Nat} {M : Mem} {x : Int32} (hz : Zi N M) (ha : a < N) (hs : SH a = .inr (.inl (0, n))) (hn : n ≤ 1000) : ∀ (k i : Nat), i + k = n → X none 0 mJ7_fill_53178 5 [some (.ref a), some (.int x), some (.int (nI i)), some (.int (nI n))] [] (embP N (setR M a (rowN (fun _ => x) i (M a)))) none (embP N (setR M a (rowN (fun _ => x) n (M a)))) := by
  intro k
  induction k with
  | zero =>
    intro i hi
    have hin : i = n := by omega
    subst hin
    refine x_iload_n dJ7_fill_53178_5 rfl ?_
    refine x_iload_n dJ7_fill_53178_6 rfl ?_
    refine x_icmp_ge 20 dJ7_fill_53178_7 (by decide) (fun c_7 => ?_) (fun c_7 => ?_)
    · exact x_return dJ7_fill_53178_20 rfl
    · exact absurd (Int32.le_refl _) c_7
  | succ k ih =>
    intro i hi
    have hlt := nI_ge (a := i) (b := n) (by omega) (by omega)
    have hz2 : Zi N (setR M a (rowN (fun _ => x) i (M a))) := Zi_row hz ha (fun j => by rw [hs]; rfl)
    refine x_iload_n dJ7_fill_53178_5 rfl ?_
    refine x_iload_n dJ7_fill_53178_6 rfl ?_
    refine x_icmp_ge 20 dJ7_fill_53178_7 (by decide) (fun c_7 => ?_) (fun c_7 => ?_)
    · exact absurd c_7 hlt
    · refine x_aload_n dJ7_fill_53178_10 rfl ?_
      refine x_iload_n dJ7_fill_53178_11 rfl ?_
      refine x_iload_n dJ7_fill_53178_12 rfl ?_
      refine p_iast (j := i) hz2 dJ7_fill_53178_13 ha hs (ixN (by omega)) (by omega) (fun _ => ?_)
      rw [updM_row, row_at, row_row, rowN_s (V := fun _ => x)]
      refine x_iincv (v := 1) dJ7_fill_53178_14 rfl (by decide) rfl (by decide) ?_
      refine x_goto 5 dJ7_fill_53178_17 (by decide) ?_
      rw [nI_1]
      exact ih (i + 1) (by omega)
theorem p_fill {N a n : Nat} {M : Mem} {x : Int32} (hz : Zi N M) (ha : a < N) (hs : SH a = .inr (.inl (0, n))) (hn : n ≤ 1000) : X none 0 mJ7_fill_53178 0 (lent 4 [.ref a, .int x]) [] (embP N M) none (embP N (setR M a (rowN (fun _ => x) n (M a)))) := by
  have h := p_fill_loop (x := x) hz ha hs hn n 0 (by omega)
  rw [rowN_0, row_self] at h
  refine x_iconstv (v := 0) dJ7_fill_53178_0 (by decide) ?_
  refine x_istore_n dJ7_fill_53178_1 (by decide) rfl ?_
  refine x_aload_n dJ7_fill_53178_2 rfl ?_
  refine x_alen (t := 0) (by decide) dJ7_fill_53178_3 (p_scr hz ha) (by rw [embP_get ha, hs]; rfl) ?_
  rw [show ((List.range n).map (M a)).length = n by simp]
  refine x_istore_n dJ7_fill_53178_4 (by decide) rfl ?_
  exact h
theorem okL1 {N o : Nat} (h : o < N) : okL N (lent 1 [.ref o]) = true := by
  show ([some (Value.ref o)] : List (Option Value)).all _ = true
  simp [okv, h]
theorem okv1 {N o : Nat} (h : o < N) : ([.ref o] : List Value).all (okv N) = true := by
  simp [okv, h]
def mkM0 (M : Mem) (o : Nat) : Mem := setR (updM (updM (updM (updM (updM (updM (updM (updM (updM (updM (updM (updM (M) o 0 1) o 1 1) o 2 1) o 3 1) o 4 1) o 5 1) o 6 1) o 8 (7)) o 10 (1)) o 11 (-1)) o 16 1) o 17 1) (o + 6) (rowN (fun _ => 3) 6 ((updM (updM (updM (updM (updM (updM (updM (updM (updM (updM (updM (updM (M) o 0 1) o 1 1) o 2 1) o 3 1) o 4 1) o 5 1) o 6 1) o 8 (7)) o 10 (1)) o 11 (-1)) o 16 1) o 17 1) (o + 6)))
theorem p_market {o : Nat} (hk : IsMk o) {M : Mem} (hz : Zi (o + 1) M) : X none 1 mX2_init 0 (lent 1 [.ref o]) [] (embP (o + 1) M) none (embP (o + 10) (mkM0 M o)) ∧ Zi (o + 10) (mkM0 M o) := by
  have hNC : o + 9 < NC := hk.1 9 (by decide)
  have z1 : Zi (o + 2) (M) := Zi_new hz (hk.1 1 (by decide))
  have z2 : Zi (o + 2) (updM (M) o 0 1) := Zi_put z1 (by omega) (fun r h => by
    rw [show SH o = mkS o 0 from hk.2 0 (by decide)] at h
    have h : some (o + 1) = some r := h
    cases h
    omega)
  have z3 : Zi (o + 3) (updM (M) o 0 1) := Zi_new z2 (hk.1 2 (by decide))
  have z4 : Zi (o + 3) (updM (updM (M) o 0 1) o 1 1) := Zi_put z3 (by omega) (fun r h => by
    rw [show SH o = mkS o 0 from hk.2 0 (by decide)] at h
    have h : some (o + 2) = some r := h
    cases h
    omega)
  have z5 : Zi (o + 4) (updM (updM (M) o 0 1) o 1 1) := Zi_new z4 (hk.1 3 (by decide))
  have z6 : Zi (o + 4) (updM (updM (updM (M) o 0 1) o 1 1) o 2 1) := Zi_put z5 (by omega) (fun r h => by
    rw [show SH o = mkS o 0 from hk.2 0 (by decide)] at h
    have h : some (o + 3) = some r := h
    cases h
    omega)
  have z7 : Zi (o + 5) (updM (updM (updM (M) o 0 1) o 1 1) o 2 1) := Zi_new z6 (hk.1 4 (by decide))
  have z8 : Zi (o + 5) (updM (updM (updM (updM (M) o 0 1) o 1 1) o 2 1) o 3 1) := Zi_put z7 (by omega) (fun r h => by
    rw [show SH o = mkS o 0 from hk.2 0 (by decide)] at h
    have h : some (o + 4) = some r := h
    cases h
    omega)
  have z9 : Zi (o + 6) (updM (updM (updM (updM (M) o 0 1) o 1 1) o 2 1) o 3 1) := Zi_new z8 (hk.1 5 (by decide))
  have z10 : Zi (o + 6) (updM (updM (updM (updM (updM (M) o 0 1) o 1 1) o 2 1) o 3 1) o 4 1) := Zi_put z9 (by omega) (fun r h => by
    rw [show SH o = mkS o 0 from hk.2 0 (by decide)] at h
    have h : some (o + 5) = some r := h
    cases h
    omega)
  have z11 : Zi (o + 7) (updM (updM (updM (updM (updM (M) o 0 1) o 1 1) o 2 1) o 3 1) o 4 1) := Zi_new z10 (hk.1 6 (by decide))
  have z12 : Zi (o + 7) (updM (updM (updM (updM (updM (updM (M) o 0 1) o 1 1) o 2 1) o 3 1) o 4 1) o 5 1) := Zi_put z11 (by omega) (fun r h => by
    rw [show SH o = mkS o 0 from hk.2 0 (by decide)] at h
    have h : some (o + 6) = some r := h
    cases h
    omega)
  have z13 : Zi (o + 8) (updM (updM (updM (updM (updM (updM (M) o 0 1) o 1 1) o 2 1) o 3 1) o 4 1) o 5 1) := Zi_new z12 (hk.1 7 (by decide))
  have z14 : Zi (o + 8) (updM (updM (updM (updM (updM (updM (updM (M) o 0 1) o 1 1) o 2 1) o 3 1) o 4 1) o 5 1) o 6 1) := Zi_put z13 (by omega) (fun r h => by
    rw [show SH o = mkS o 0 from hk.2 0 (by decide)] at h
    have h : some (o + 7) = some r := h
    cases h
    omega)
  have z15 : Zi (o + 8) (updM (updM (updM (updM (updM (updM (updM (updM (M) o 0 1) o 1 1) o 2 1) o 3 1) o 4 1) o 5 1) o 6 1) o 8 (7)) := Zi_put z14 (by omega) (fun r h => by
    rw [show SH o = mkS o 0 from hk.2 0 (by decide)] at h
    have h : none = some r := h
    cases h)
  have z16 : Zi (o + 8) (updM (updM (updM (updM (updM (updM (updM (updM (updM (M) o 0 1) o 1 1) o 2 1) o 3 1) o 4 1) o 5 1) o 6 1) o 8 (7)) o 10 (1)) := Zi_put z15 (by omega) (fun r h => by
    rw [show SH o = mkS o 0 from hk.2 0 (by decide)] at h
    have h : none = some r := h
    cases h)
  have z17 : Zi (o + 8) (updM (updM (updM (updM (updM (updM (updM (updM (updM (updM (M) o 0 1) o 1 1) o 2 1) o 3 1) o 4 1) o 5 1) o 6 1) o 8 (7)) o 10 (1)) o 11 (-1)) := Zi_put z16 (by omega) (fun r h => by
    rw [show SH o = mkS o 0 from hk.2 0 (by decide)] at h
    have h : none = some r := h
    cases h)
  have z18 : Zi (o + 9) (updM (updM (updM (updM (updM (updM (updM (updM (updM (updM (M) o 0 1) o 1 1) o 2 1) o 3 1) o 4 1) o 5 1) o 6 1) o 8 (7)) o 10 (1)) o 11 (-1)) := Zi_new z17 (hk.1 8 (by decide))
  have z19 : Zi (o + 9) (updM (updM (updM (updM (updM (updM (updM (updM (updM (updM (updM (M) o 0 1) o 1 1) o 2 1) o 3 1) o 4 1) o 5 1) o 6 1) o 8 (7)) o 10 (1)) o 11 (-1)) o 16 1) := Zi_put z18 (by omega) (fun r h => by
    rw [show SH o = mkS o 0 from hk.2 0 (by decide)] at h
    have h : some (o + 8) = some r := h
    cases h
    omega)
  have z20 : Zi (o + 10) (updM (updM (updM (updM (updM (updM (updM (updM (updM (updM (updM (M) o 0 1) o 1 1) o 2 1) o 3 1) o 4 1) o 5 1) o 6 1) o 8 (7)) o 10 (1)) o 11 (-1)) o 16 1) := Zi_new z19 (hk.1 9 (by decide))
  have z21 : Zi (o + 10) (updM (updM (updM (updM (updM (updM (updM (updM (updM (updM (updM (updM (M) o 0 1) o 1 1) o 2 1) o 3 1) o 4 1) o 5 1) o 6 1) o 8 (7)) o 10 (1)) o 11 (-1)) o 16 1) o 17 1) := Zi_put z20 (by omega) (fun r h => by
    rw [show SH o = mkS o 0 from hk.2 0 (by decide)] at h
    have h : some (o + 9) = some r := h
    cases h
    omega)
  have z22 : Zi (o + 10) (setR (updM (updM (updM (updM (updM (updM (updM (updM (updM (updM (updM (updM (M) o 0 1) o 1 1) o 2 1) o 3 1) o 4 1) o 5 1) o 6 1) o 8 (7)) o 10 (1)) o 11 (-1)) o 16 1) o 17 1) (o + 6) (rowN (fun _ => 3) 6 ((updM (updM (updM (updM (updM (updM (updM (updM (updM (updM (updM (updM (M) o 0 1) o 1 1) o 2 1) o 3 1) o 4 1) o 5 1) o 6 1) o 8 (7)) o 10 (1)) o 11 (-1)) o 16 1) o 17 1) (o + 6)))) := Zi_row z21 (by omega) (fun j => by
    rw [show SH (o + 6) = mkS o 6 from hk.2 6 (by decide)]
    rfl)
  refine ⟨?_, z22⟩
  skip
  refine x_aload_n dX2_init_0 rfl ?_
  refine x_objInit dX2_init_1 (by decide) (p_scr hz (by omega)) lkX2_3 (cat8 rfl) ?_
  refine x_aload_n dX2_init_4 rfl ?_
  refine x_bipushv (v := 7) dX2_init_5 (by decide) ?_
  refine p_newarr (m := 7) 0 hz (hk.1 1 (by decide)) (hk.2 1 (by decide)) (by decide) (by decide) rfl rfl acI dX2_init_7 (by decide) (by decide) (by decide) (okL1 (by omega)) (okv1 (by omega)) (fun _ => ?_)
  refine p_putR z1 fkX2_9 dX2_init_9 (by omega) (hk.2 0 (by decide)) rfl (by omega) rfl rfl rfl (fun _ => rfl) (fun _ => rfl) (fun _ => ?_)
  refine x_aload_n dX2_init_12 rfl ?_
  refine x_bipushv (v := 7) dX2_init_13 (by decide) ?_
  refine p_newarr (m := 7) 0 z2 (hk.1 2 (by decide)) (hk.2 2 (by decide)) (by decide) (by decide) rfl rfl acI dX2_init_15 (by decide) (by decide) (by decide) (okL1 (by omega)) (okv1 (by omega)) (fun _ => ?_)
  refine p_putR z3 fkX2_15 dX2_init_17 (by omega) (hk.2 0 (by decide)) rfl (by omega) rfl rfl rfl (fun _ => rfl) (fun _ => rfl) (fun _ => ?_)
  refine x_aload_n dX2_init_20 rfl ?_
  refine x_bipushv (v := 7) dX2_init_21 (by decide) ?_
  refine p_newarr (m := 7) 0 z4 (hk.1 3 (by decide)) (hk.2 3 (by decide)) (by decide) (by decide) rfl rfl acI dX2_init_23 (by decide) (by decide) (by decide) (okL1 (by omega)) (okv1 (by omega)) (fun _ => ?_)
  refine p_putR z5 fkX2_18 dX2_init_25 (by omega) (hk.2 0 (by decide)) rfl (by omega) rfl rfl rfl (fun _ => rfl) (fun _ => rfl) (fun _ => ?_)
  refine x_aload_n dX2_init_28 rfl ?_
  refine x_bipushv (v := 7) dX2_init_29 (by decide) ?_
  refine p_newarr (m := 7) 0 z6 (hk.1 4 (by decide)) (hk.2 4 (by decide)) (by decide) (by decide) rfl rfl acI dX2_init_31 (by decide) (by decide) (by decide) (okL1 (by omega)) (okv1 (by omega)) (fun _ => ?_)
  refine p_putR z7 fkX2_21 dX2_init_33 (by omega) (hk.2 0 (by decide)) rfl (by omega) rfl rfl rfl (fun _ => rfl) (fun _ => rfl) (fun _ => ?_)
  refine x_aload_n dX2_init_36 rfl ?_
  refine x_bipushv (v := 7) dX2_init_37 (by decide) ?_
  refine p_newarr (m := 7) 0 z8 (hk.1 5 (by decide)) (hk.2 5 (by decide)) (by decide) (by decide) rfl rfl acI dX2_init_39 (by decide) (by decide) (by decide) (okL1 (by omega)) (okv1 (by omega)) (fun _ => ?_)
  refine p_putR z9 fkX2_24 dX2_init_41 (by omega) (hk.2 0 (by decide)) rfl (by omega) rfl rfl rfl (fun _ => rfl) (fun _ => rfl) (fun _ => ?_)
  refine x_aload_n dX2_init_44 rfl ?_
  refine x_bipushv (v := 6) dX2_init_45 (by decide) ?_
  refine p_newarr (m := 6) 0 z10 (hk.1 6 (by decide)) (hk.2 6 (by decide)) (by decide) (by decide) rfl rfl acI dX2_init_47 (by decide) (by decide) (by decide) (okL1 (by omega)) (okv1 (by omega)) (fun _ => ?_)
  refine p_putR z11 fkX2_27 dX2_init_49 (by omega) (hk.2 0 (by decide)) rfl (by omega) rfl rfl rfl (fun _ => rfl) (fun _ => rfl) (fun _ => ?_)
  refine x_aload_n dX2_init_52 rfl ?_
  refine x_bipushv (v := 6) dX2_init_53 (by decide) ?_
  refine p_newarr (m := 6) 0 z12 (hk.1 7 (by decide)) (hk.2 7 (by decide)) (by decide) (by decide) rfl rfl acI dX2_init_55 (by decide) (by decide) (by decide) (okL1 (by omega)) (okv1 (by omega)) (fun _ => ?_)
  refine p_putR z13 fkX2_30 dX2_init_57 (by omega) (hk.2 0 (by decide)) rfl (by omega) rfl rfl rfl (fun _ => rfl) (fun _ => rfl) (fun _ => ?_)
  refine x_aload_n dX2_init_60 rfl ?_
  refine x_bipushv (v := 7) dX2_init_61 (by decide) ?_
  refine p_putI z14 fkX2_33 dX2_init_63 (by omega) (hk.2 0 (by decide)) rfl rfl rfl rfl (fun _ => ?_)
  refine x_aload_n dX2_init_66 rfl ?_
  refine x_iconstv (v := 1) dX2_init_67 (by decide) ?_
  refine p_putI z15 fkX2_37 dX2_init_68 (by omega) (hk.2 0 (by decide)) rfl rfl rfl rfl (fun _ => ?_)
  refine x_aload_n dX2_init_71 rfl ?_
  refine x_iconstv (v := -1) dX2_init_72 (by decide) ?_
  refine p_putI z16 fkX2_40 dX2_init_73 (by omega) (hk.2 0 (by decide)) rfl rfl rfl rfl (fun _ => ?_)
  refine x_aload_n dX2_init_76 rfl ?_
  refine x_bipushv (v := 7) dX2_init_77 (by decide) ?_
  refine p_newarr (m := 7) 0 z17 (hk.1 8 (by decide)) (hk.2 8 (by decide)) (by decide) (by decide) rfl rfl acI dX2_init_79 (by decide) (by decide) (by decide) (okL1 (by omega)) (okv1 (by omega)) (fun _ => ?_)
  refine p_putR z18 fkX2_43 dX2_init_81 (by omega) (hk.2 0 (by decide)) rfl (by omega) rfl rfl rfl (fun _ => rfl) (fun _ => rfl) (fun _ => ?_)
  refine x_aload_n dX2_init_84 rfl ?_
  refine x_bipushv (v := 7) dX2_init_85 (by decide) ?_
  refine p_newarr (m := 7) 0 z19 (hk.1 9 (by decide)) (hk.2 9 (by decide)) (by decide) (by decide) rfl rfl acI dX2_init_87 (by decide) (by decide) (by decide) (okL1 (by omega)) (okv1 (by omega)) (fun _ => ?_)
  refine p_putR z20 fkX2_46 dX2_init_89 (by omega) (hk.2 0 (by decide)) rfl (by omega) rfl rfl rfl (fun _ => rfl) (fun _ => rfl) (fun _ => ?_)
  refine x_aload_n dX2_init_92 rfl ?_
  refine p_getR z21 fkX2_27 dX2_init_93 (by omega) (hk.2 0 (by decide)) rfl (by simp [updM]) ?_
  refine x_iconstv (v := 3) dX2_init_96 (by decide) ?_
  refine x_callS (as := [_, _]) okJ7_fill_53178 lkX2_49 dX2_init_97 rfl (p_fill (n := 6) z21 (by omega) (hk.2 6 (by decide)) (by decide)) (by omega) rfl (by simp [Value.category]) (Nat.le_of_ble_eq_true rfl) (cat8 rfl) (Or.inl (by rw [embP_len, embP_len])) ?_
  exact x_return dX2_init_100 rfl
theorem mkM0_ne {M : Mem} {o c : Nat} (h : c < o ∨ o + 9 < c) : mkM0 M o c = M c := by
  unfold mkM0
  rw [row_ne (by omega), updM_ne (by omega), updM_ne (by omega), updM_ne (by omega), updM_ne (by omega), updM_ne (by omega), updM_ne (by omega), updM_ne (by omega), updM_ne (by omega), updM_ne (by omega), updM_ne (by omega), updM_ne (by omega), updM_ne (by omega)]
def iniP (M : Mem) : Mem := updM (M) 73 1 1
theorem p_pad {M : Mem} (hz : Zi (74) M) : X none 1 mX3_init 0 (lent 1 [.ref 73]) [] (embP (74) M) none (embP (75) (iniP M)) ∧ Zi (75) (iniP M) := by
  have z1 : Zi (75) (M) := Zi_new hz (by decide)
  have z2 : Zi (75) (updM (M) 73 1 1) := Zi_put z1 (by decide) (fun r h => by
    have h : some (74) = some r := h
    cases h
    decide)
  refine ⟨?_, z2⟩
  skip
  refine x_aload_n dX3_init_0 rfl ?_
  refine x_objInit dX3_init_1 (by decide) (p_scr hz (by decide)) lkX3_3 (cat8 rfl) ?_
  refine x_aload_n dX3_init_4 rfl ?_
  refine x_bipushv (v := 60) dX3_init_5 (by decide) ?_
  refine p_newarr (m := 60) 2 hz (by decide) rfl (by decide) (by decide) rfl rfl acC dX3_init_7 (by decide) (by decide) (by decide) (by decide) (by decide) (fun _ => ?_)
  refine p_putR z1 fkX3_9 dX3_init_9 (by decide) rfl rfl (by decide) rfl rfl rfl (fun _ => rfl) (fun _ => rfl) (fun _ => ?_)
  exact x_return dX3_init_12 rfl
def iniC (M : Mem) : Mem := updM (updM (updM (updM (M) 75 0 1) 75 1 1) 75 2 1) 75 3 1
theorem p_cs {M : Mem} (hz : Zi (76) M) : X none 1 mX0_init 0 (lent 1 [.ref 75]) [] (embP (76) M) none (embP (80) (iniC M)) ∧ Zi (80) (iniC M) := by
  have z1 : Zi (77) (M) := Zi_new hz (by decide)
  have z2 : Zi (77) (updM (M) 75 0 1) := Zi_put z1 (by decide) (fun r h => by
    have h : some (76) = some r := h
    cases h
    decide)
  have z3 : Zi (78) (updM (M) 75 0 1) := Zi_new z2 (by decide)
  have z4 : Zi (78) (updM (updM (M) 75 0 1) 75 1 1) := Zi_put z3 (by decide) (fun r h => by
    have h : some (77) = some r := h
    cases h
    decide)
  have z5 : Zi (79) (updM (updM (M) 75 0 1) 75 1 1) := Zi_new z4 (by decide)
  have z6 : Zi (79) (updM (updM (updM (M) 75 0 1) 75 1 1) 75 2 1) := Zi_put z5 (by decide) (fun r h => by
    have h : some (78) = some r := h
    cases h
    decide)
  have z7 : Zi (80) (updM (updM (updM (M) 75 0 1) 75 1 1) 75 2 1) := Zi_new z6 (by decide)
  have z8 : Zi (80) (updM (updM (updM (updM (M) 75 0 1) 75 1 1) 75 2 1) 75 3 1) := Zi_put z7 (by decide) (fun r h => by
    have h : some (79) = some r := h
    cases h
    decide)
  refine ⟨?_, z8⟩
  skip
  refine x_aload_n dX0_init_0 rfl ?_
  refine x_objInit dX0_init_1 (by decide) (p_scr hz (by decide)) lkX0_3 (cat8 rfl) ?_
  refine x_aload_n dX0_init_4 rfl ?_
  refine x_bipushv (v := 7) dX0_init_5 (by decide) ?_
  refine p_newarr (m := 7) 0 hz (by decide) rfl (by decide) (by decide) rfl rfl acI dX0_init_7 (by decide) (by decide) (by decide) (by decide) (by decide) (fun _ => ?_)
  refine p_putR z1 fkX0_9 dX0_init_9 (by decide) rfl rfl (by decide) rfl rfl rfl (fun _ => rfl) (fun _ => rfl) (fun _ => ?_)
  refine x_aload_n dX0_init_12 rfl ?_
  refine x_sipushv (v := 128) dX0_init_13 (by decide) ?_
  refine p_newarr (m := 128) 0 z2 (by decide) rfl (by decide) (by decide) rfl rfl acI dX0_init_16 (by decide) (by decide) (by decide) (by decide) (by decide) (fun _ => ?_)
  refine p_putR z3 fkX0_15 dX0_init_18 (by decide) rfl rfl (by decide) rfl rfl rfl (fun _ => rfl) (fun _ => rfl) (fun _ => ?_)
  refine x_aload_n dX0_init_21 rfl ?_
  refine x_sipushv (v := 128) dX0_init_22 (by decide) ?_
  refine p_newarr (m := 128) 1 z4 (by decide) rfl (by decide) (by decide) rfl rfl acZ dX0_init_25 (by decide) (by decide) (by decide) (by decide) (by decide) (fun _ => ?_)
  refine p_putR z5 fkX0_18 dX0_init_27 (by decide) rfl rfl (by decide) rfl rfl rfl (fun _ => rfl) (fun _ => rfl) (fun _ => ?_)
  refine x_aload_n dX0_init_30 rfl ?_
  refine x_sipushv (v := 128) dX0_init_31 (by decide) ?_
  refine p_newarr (m := 128) 1 z6 (by decide) rfl (by decide) (by decide) rfl rfl acZ dX0_init_34 (by decide) (by decide) (by decide) (by decide) (by decide) (fun _ => ?_)
  refine p_putR z7 fkX0_22 dX0_init_36 (by decide) rfl rfl (by decide) rfl rfl rfl (fun _ => rfl) (fun _ => rfl) (fun _ => ?_)
  exact x_return dX0_init_39 rfl
def iniT (M : Mem) : Mem := updM (updM (updM (M) 80 0 1) 80 1 1) 80 2 1
theorem p_ts {M : Mem} (hz : Zi (81) M) : X none 1 mX4_init 0 (lent 1 [.ref 80]) [] (embP (81) M) none (embP (84) (iniT M)) ∧ Zi (84) (iniT M) := by
  have z1 : Zi (82) (M) := Zi_new hz (by decide)
  have z2 : Zi (82) (updM (M) 80 0 1) := Zi_put z1 (by decide) (fun r h => by
    have h : some (81) = some r := h
    cases h
    decide)
  have z3 : Zi (83) (updM (M) 80 0 1) := Zi_new z2 (by decide)
  have z4 : Zi (83) (updM (updM (M) 80 0 1) 80 1 1) := Zi_put z3 (by decide) (fun r h => by
    have h : some (82) = some r := h
    cases h
    decide)
  have z5 : Zi (84) (updM (updM (M) 80 0 1) 80 1 1) := Zi_new z4 (by decide)
  have z6 : Zi (84) (updM (updM (updM (M) 80 0 1) 80 1 1) 80 2 1) := Zi_put z5 (by decide) (fun r h => by
    have h : some (83) = some r := h
    cases h
    decide)
  refine ⟨?_, z6⟩
  skip
  refine x_aload_n dX4_init_0 rfl ?_
  refine x_objInit dX4_init_1 (by decide) (p_scr hz (by decide)) lkX4_3 (cat8 rfl) ?_
  refine x_aload_n dX4_init_4 rfl ?_
  refine x_bipushv (v := 7) dX4_init_5 (by decide) ?_
  refine p_newarr (m := 7) 0 hz (by decide) rfl (by decide) (by decide) rfl rfl acI dX4_init_7 (by decide) (by decide) (by decide) (by decide) (by decide) (fun _ => ?_)
  refine p_putR z1 fkX4_9 dX4_init_9 (by decide) rfl rfl (by decide) rfl rfl rfl (fun _ => rfl) (fun _ => rfl) (fun _ => ?_)
  refine x_aload_n dX4_init_12 rfl ?_
  refine x_bipushv (v := 7) dX4_init_13 (by decide) ?_
  refine p_newarr (m := 7) 0 z2 (by decide) rfl (by decide) (by decide) rfl rfl acI dX4_init_15 (by decide) (by decide) (by decide) (by decide) (by decide) (fun _ => ?_)
  refine p_putR z3 fkX4_15 dX4_init_17 (by decide) rfl rfl (by decide) rfl rfl rfl (fun _ => rfl) (fun _ => rfl) (fun _ => ?_)
  refine x_aload_n dX4_init_20 rfl ?_
  refine x_bipushv (v := 7) dX4_init_21 (by decide) ?_
  refine p_newarr (m := 7) 0 z4 (by decide) rfl (by decide) (by decide) rfl rfl acI dX4_init_23 (by decide) (by decide) (by decide) (by decide) (by decide) (fun _ => ?_)
  refine p_putR z5 fkX4_18 dX4_init_25 (by decide) rfl rfl (by decide) rfl rfl rfl (fun _ => rfl) (fun _ => rfl) (fun _ => ?_)
  exact x_return dX4_init_28 rfl
def iniH (M : Mem) : Mem := updM (mkM0 (updM (mkM0 (updM (mkM0 (updM (mkM0 (updM (M) 31 1 1) 33) 32 0 1) 43) 32 1 1) 53) 32 2 1) 63) 32 3 1
theorem p_hist {M : Mem} (hz : Zi (32) M) : X none 2 mX1_init 0 (lent 2 [.ref 31]) [] (embP (32) M) none (embP (73) (iniH M)) ∧ Zi (73) (iniH M) := by
  have z1 : Zi (33) (M) := Zi_new hz (by decide)
  have z2 : Zi (33) (updM (M) 31 1 1) := Zi_put z1 (by decide) (fun r h => by
    have h : some (32) = some r := h
    cases h
    decide)
  have z3 : Zi (34) (updM (M) 31 1 1) := Zi_new z2 (by decide)
  have z4 : Zi (43) (mkM0 (updM (M) 31 1 1) 33) := (p_market mk33 z3).2
  have z5 : Zi (43) (updM (mkM0 (updM (M) 31 1 1) 33) 32 0 1) := Zi_put z4 (by decide) (fun r h => by
    have h : some 33 = some r := h
    cases h
    decide)
  have z6 : Zi (44) (updM (mkM0 (updM (M) 31 1 1) 33) 32 0 1) := Zi_new z5 (by decide)
  have z7 : Zi (53) (mkM0 (updM (mkM0 (updM (M) 31 1 1) 33) 32 0 1) 43) := (p_market mk43 z6).2
  have z8 : Zi (53) (updM (mkM0 (updM (mkM0 (updM (M) 31 1 1) 33) 32 0 1) 43) 32 1 1) := Zi_put z7 (by decide) (fun r h => by
    have h : some 43 = some r := h
    cases h
    decide)
  have z9 : Zi (54) (updM (mkM0 (updM (mkM0 (updM (M) 31 1 1) 33) 32 0 1) 43) 32 1 1) := Zi_new z8 (by decide)
  have z10 : Zi (63) (mkM0 (updM (mkM0 (updM (mkM0 (updM (M) 31 1 1) 33) 32 0 1) 43) 32 1 1) 53) := (p_market mk53 z9).2
  have z11 : Zi (63) (updM (mkM0 (updM (mkM0 (updM (mkM0 (updM (M) 31 1 1) 33) 32 0 1) 43) 32 1 1) 53) 32 2 1) := Zi_put z10 (by decide) (fun r h => by
    have h : some 53 = some r := h
    cases h
    decide)
  have z12 : Zi (64) (updM (mkM0 (updM (mkM0 (updM (mkM0 (updM (M) 31 1 1) 33) 32 0 1) 43) 32 1 1) 53) 32 2 1) := Zi_new z11 (by decide)
  have z13 : Zi (73) (mkM0 (updM (mkM0 (updM (mkM0 (updM (mkM0 (updM (M) 31 1 1) 33) 32 0 1) 43) 32 1 1) 53) 32 2 1) 63) := (p_market mk63 z12).2
  have z14 : Zi (73) (updM (mkM0 (updM (mkM0 (updM (mkM0 (updM (mkM0 (updM (M) 31 1 1) 33) 32 0 1) 43) 32 1 1) 53) 32 2 1) 63) 32 3 1) := Zi_put z13 (by decide) (fun r h => by
    have h : some 63 = some r := h
    cases h
    decide)
  refine ⟨?_, z14⟩
  skip
  refine x_aload_n dX1_init_0 rfl ?_
  refine x_objInit dX1_init_1 (by decide) (p_scr hz (by decide)) lkX1_3 (cat8 rfl) ?_
  refine x_aload_n dX1_init_4 rfl ?_
  refine x_iconstv (v := 4) dX1_init_5 (by decide) ?_
  refine p_anew hz (by decide) rfl rfl dX1_init_6 ckX1_9 (by decide) (by decide) (by decide) (by decide) (fun _ => ?_)
  refine p_putR z1 fkX1_11 dX1_init_9 (by decide) rfl rfl (by decide) rfl rfl rfl (fun _ => rfl) (fun _ => rfl) (fun _ => ?_)
  refine x_iconstv (v := 0) dX1_init_12 (by decide) ?_
  refine x_istore_n dX1_init_13 (by decide) rfl ?_
  refine x_iload_n dX1_init_14 rfl ?_
  refine x_iconstv (v := 4) dX1_init_15 (by decide) ?_
  refine x_icmp_ge 38 dX1_init_16 (by decide) (fun c_16 => ?_) (fun c_16 => ?_)
  · exact absurd c_16 (by decide)
  refine x_aload_n dX1_init_19 rfl ?_
  refine p_getR z2 fkX1_11 dX1_init_20 (by decide) rfl rfl (by simp [updM, mkM0_ne]) ?_
  refine x_iload_n dX1_init_23 rfl ?_
  refine p_new z2 (by decide) rfl rfl dX1_init_24 rfl ckX1_9 isX2 inX2 (by decide) (by decide) (fun _ => ?_)
  refine x_dup_r dX1_init_27 ?_
  refine p_callI (as := []) z3 okX2_init lkX1_17 dX1_init_28 rfl (p_market mk33 z3).1 (by omega) rfl (fun v hv => by cases hv) (Nat.le_of_ble_eq_true rfl) (by decide) (cat8 rfl) (by decide) (by decide) ?_
  refine p_aast (j := 0) z4 dX1_init_31 (by decide) rfl (by decide) rfl (by decide) rfl (fun _ => ?_)
  refine x_iincv (v := 1) dX1_init_32 rfl (by decide) rfl (by decide) ?_
  refine x_goto 14 dX1_init_35 (by decide) ?_
  refine x_iload_n dX1_init_14 rfl ?_
  refine x_iconstv (v := 4) dX1_init_15 (by decide) ?_
  refine x_icmp_ge 38 dX1_init_16 (by decide) (fun c_16 => ?_) (fun c_16 => ?_)
  · exact absurd c_16 (by decide)
  refine x_aload_n dX1_init_19 rfl ?_
  refine p_getR z5 fkX1_11 dX1_init_20 (by decide) rfl rfl (by simp [updM, mkM0_ne]) ?_
  refine x_iload_n dX1_init_23 rfl ?_
  refine p_new z5 (by decide) rfl rfl dX1_init_24 rfl ckX1_9 isX2 inX2 (by decide) (by decide) (fun _ => ?_)
  refine x_dup_r dX1_init_27 ?_
  refine p_callI (as := []) z6 okX2_init lkX1_17 dX1_init_28 rfl (p_market mk43 z6).1 (by omega) rfl (fun v hv => by cases hv) (Nat.le_of_ble_eq_true rfl) (by decide) (cat8 rfl) (by decide) (by decide) ?_
  refine p_aast (j := 1) z7 dX1_init_31 (by decide) rfl (by decide) rfl (by decide) rfl (fun _ => ?_)
  refine x_iincv (v := 1) dX1_init_32 rfl (by decide) rfl (by decide) ?_
  refine x_goto 14 dX1_init_35 (by decide) ?_
  refine x_iload_n dX1_init_14 rfl ?_
  refine x_iconstv (v := 4) dX1_init_15 (by decide) ?_
  refine x_icmp_ge 38 dX1_init_16 (by decide) (fun c_16 => ?_) (fun c_16 => ?_)
  · exact absurd c_16 (by decide)
  refine x_aload_n dX1_init_19 rfl ?_
  refine p_getR z8 fkX1_11 dX1_init_20 (by decide) rfl rfl (by simp [updM, mkM0_ne]) ?_
  refine x_iload_n dX1_init_23 rfl ?_
  refine p_new z8 (by decide) rfl rfl dX1_init_24 rfl ckX1_9 isX2 inX2 (by decide) (by decide) (fun _ => ?_)
  refine x_dup_r dX1_init_27 ?_
  refine p_callI (as := []) z9 okX2_init lkX1_17 dX1_init_28 rfl (p_market mk53 z9).1 (by omega) rfl (fun v hv => by cases hv) (Nat.le_of_ble_eq_true rfl) (by decide) (cat8 rfl) (by decide) (by decide) ?_
  refine p_aast (j := 2) z10 dX1_init_31 (by decide) rfl (by decide) rfl (by decide) rfl (fun _ => ?_)
  refine x_iincv (v := 1) dX1_init_32 rfl (by decide) rfl (by decide) ?_
  refine x_goto 14 dX1_init_35 (by decide) ?_
  refine x_iload_n dX1_init_14 rfl ?_
  refine x_iconstv (v := 4) dX1_init_15 (by decide) ?_
  refine x_icmp_ge 38 dX1_init_16 (by decide) (fun c_16 => ?_) (fun c_16 => ?_)
  · exact absurd c_16 (by decide)
  refine x_aload_n dX1_init_19 rfl ?_
  refine p_getR z11 fkX1_11 dX1_init_20 (by decide) rfl rfl (by simp [updM, mkM0_ne]) ?_
  refine x_iload_n dX1_init_23 rfl ?_
  refine p_new z11 (by decide) rfl rfl dX1_init_24 rfl ckX1_9 isX2 inX2 (by decide) (by decide) (fun _ => ?_)
  refine x_dup_r dX1_init_27 ?_
  refine p_callI (as := []) z12 okX2_init lkX1_17 dX1_init_28 rfl (p_market mk63 z12).1 (by omega) rfl (fun v hv => by cases hv) (Nat.le_of_ble_eq_true rfl) (by decide) (cat8 rfl) (by decide) (by decide) ?_
  refine p_aast (j := 3) z13 dX1_init_31 (by decide) rfl (by decide) rfl (by decide) rfl (fun _ => ?_)
  refine x_iincv (v := 1) dX1_init_32 rfl (by decide) rfl (by decide) ?_
  refine x_goto 14 dX1_init_35 (by decide) ?_
  refine x_iload_n dX1_init_14 rfl ?_
  refine x_iconstv (v := 4) dX1_init_15 (by decide) ?_
  refine x_icmp_ge 38 dX1_init_16 (by decide) (fun c_16 => ?_) (fun c_16 => ?_)
  rotate_left
  · exact absurd (by decide) c_16
  exact x_return dX1_init_38 rfl
def iniG (M : Mem) : Mem := updM (updM (iniT (updM (iniC (updM (iniP (updM (iniH (updM (mkM0 (updM (mkM0 (updM (mkM0 (M) 1) 0 0 1) 11) 0 1 1) 21) 0 2 1)) 0 3 1)) 0 4 1)) 0 5 1)) 0 6 1) 0 9 (-1)
theorem p_game {M : Mem} (hz : Zi (1) M) : X none 3 mX5_init 0 (lent 1 [.ref 0]) [] (embP (1) M) none (embP (84) (iniG M)) ∧ Zi (84) (iniG M) := by
  have z1 : Zi (2) (M) := Zi_new hz (by decide)
  have z2 : Zi (11) (mkM0 (M) 1) := (p_market mk1 z1).2
  have z3 : Zi (11) (updM (mkM0 (M) 1) 0 0 1) := Zi_put z2 (by decide) (fun r h => by
    have h : some (1) = some r := h
    cases h
    decide)
  have z4 : Zi (12) (updM (mkM0 (M) 1) 0 0 1) := Zi_new z3 (by decide)
  have z5 : Zi (21) (mkM0 (updM (mkM0 (M) 1) 0 0 1) 11) := (p_market mk11 z4).2
  have z6 : Zi (21) (updM (mkM0 (updM (mkM0 (M) 1) 0 0 1) 11) 0 1 1) := Zi_put z5 (by decide) (fun r h => by
    have h : some (11) = some r := h
    cases h
    decide)
  have z7 : Zi (22) (updM (mkM0 (updM (mkM0 (M) 1) 0 0 1) 11) 0 1 1) := Zi_new z6 (by decide)
  have z8 : Zi (31) (mkM0 (updM (mkM0 (updM (mkM0 (M) 1) 0 0 1) 11) 0 1 1) 21) := (p_market mk21 z7).2
  have z9 : Zi (31) (updM (mkM0 (updM (mkM0 (updM (mkM0 (M) 1) 0 0 1) 11) 0 1 1) 21) 0 2 1) := Zi_put z8 (by decide) (fun r h => by
    have h : some (21) = some r := h
    cases h
    decide)
  have z10 : Zi (32) (updM (mkM0 (updM (mkM0 (updM (mkM0 (M) 1) 0 0 1) 11) 0 1 1) 21) 0 2 1) := Zi_new z9 (by decide)
  have z11 : Zi (73) (iniH (updM (mkM0 (updM (mkM0 (updM (mkM0 (M) 1) 0 0 1) 11) 0 1 1) 21) 0 2 1)) := (p_hist z10).2
  have z12 : Zi (73) (updM (iniH (updM (mkM0 (updM (mkM0 (updM (mkM0 (M) 1) 0 0 1) 11) 0 1 1) 21) 0 2 1)) 0 3 1) := Zi_put z11 (by decide) (fun r h => by
    have h : some (31) = some r := h
    cases h
    decide)
  have z13 : Zi (74) (updM (iniH (updM (mkM0 (updM (mkM0 (updM (mkM0 (M) 1) 0 0 1) 11) 0 1 1) 21) 0 2 1)) 0 3 1) := Zi_new z12 (by decide)
  have z14 : Zi (75) (iniP (updM (iniH (updM (mkM0 (updM (mkM0 (updM (mkM0 (M) 1) 0 0 1) 11) 0 1 1) 21) 0 2 1)) 0 3 1)) := (p_pad z13).2
  have z15 : Zi (75) (updM (iniP (updM (iniH (updM (mkM0 (updM (mkM0 (updM (mkM0 (M) 1) 0 0 1) 11) 0 1 1) 21) 0 2 1)) 0 3 1)) 0 4 1) := Zi_put z14 (by decide) (fun r h => by
    have h : some (73) = some r := h
    cases h
    decide)
  have z16 : Zi (76) (updM (iniP (updM (iniH (updM (mkM0 (updM (mkM0 (updM (mkM0 (M) 1) 0 0 1) 11) 0 1 1) 21) 0 2 1)) 0 3 1)) 0 4 1) := Zi_new z15 (by decide)
  have z17 : Zi (80) (iniC (updM (iniP (updM (iniH (updM (mkM0 (updM (mkM0 (updM (mkM0 (M) 1) 0 0 1) 11) 0 1 1) 21) 0 2 1)) 0 3 1)) 0 4 1)) := (p_cs z16).2
  have z18 : Zi (80) (updM (iniC (updM (iniP (updM (iniH (updM (mkM0 (updM (mkM0 (updM (mkM0 (M) 1) 0 0 1) 11) 0 1 1) 21) 0 2 1)) 0 3 1)) 0 4 1)) 0 5 1) := Zi_put z17 (by decide) (fun r h => by
    have h : some (75) = some r := h
    cases h
    decide)
  have z19 : Zi (81) (updM (iniC (updM (iniP (updM (iniH (updM (mkM0 (updM (mkM0 (updM (mkM0 (M) 1) 0 0 1) 11) 0 1 1) 21) 0 2 1)) 0 3 1)) 0 4 1)) 0 5 1) := Zi_new z18 (by decide)
  have z20 : Zi (84) (iniT (updM (iniC (updM (iniP (updM (iniH (updM (mkM0 (updM (mkM0 (updM (mkM0 (M) 1) 0 0 1) 11) 0 1 1) 21) 0 2 1)) 0 3 1)) 0 4 1)) 0 5 1)) := (p_ts z19).2
  have z21 : Zi (84) (updM (iniT (updM (iniC (updM (iniP (updM (iniH (updM (mkM0 (updM (mkM0 (updM (mkM0 (M) 1) 0 0 1) 11) 0 1 1) 21) 0 2 1)) 0 3 1)) 0 4 1)) 0 5 1)) 0 6 1) := Zi_put z20 (by decide) (fun r h => by
    have h : some (80) = some r := h
    cases h
    decide)
  have z22 : Zi (84) (updM (updM (iniT (updM (iniC (updM (iniP (updM (iniH (updM (mkM0 (updM (mkM0 (updM (mkM0 (M) 1) 0 0 1) 11) 0 1 1) 21) 0 2 1)) 0 3 1)) 0 4 1)) 0 5 1)) 0 6 1) 0 9 (-1)) := Zi_put z21 (by decide) (fun r h => by
    have h : none = some r := h
    cases h)
  refine ⟨?_, z22⟩
  skip
  refine x_aload_n dX5_init_0 rfl ?_
  refine x_objInit dX5_init_1 (by decide) (p_scr hz (by decide)) lkX5_1 (cat8 rfl) ?_
  refine x_aload_n dX5_init_4 rfl ?_
  refine p_new hz (by decide) rfl rfl dX5_init_5 rfl ckX5_7 isX2 inX2 (by decide) (by decide) (fun _ => ?_)
  refine x_dup_r dX5_init_8 ?_
  refine p_callI (as := []) z1 okX2_init lkX5_9 dX5_init_9 rfl (p_market mk1 z1).1 (by omega) rfl (fun v hv => by cases hv) (Nat.le_of_ble_eq_true rfl) (by decide) (cat8 rfl) (by decide) (by decide) ?_
  refine p_putR z2 fkX5_10 dX5_init_12 (by decide) rfl rfl (by decide) rfl rfl rfl (fun _ => rfl) (fun _ => rfl) (fun _ => ?_)
  refine x_aload_n dX5_init_15 rfl ?_
  refine p_new z3 (by decide) rfl rfl dX5_init_16 rfl ckX5_7 isX2 inX2 (by decide) (by decide) (fun _ => ?_)
  refine x_dup_r dX5_init_19 ?_
  refine p_callI (as := []) z4 okX2_init lkX5_9 dX5_init_20 rfl (p_market mk11 z4).1 (by omega) rfl (fun v hv => by cases hv) (Nat.le_of_ble_eq_true rfl) (by decide) (cat8 rfl) (by decide) (by decide) ?_
  refine p_putR z5 fkX5_16 dX5_init_23 (by decide) rfl rfl (by decide) rfl rfl rfl (fun _ => rfl) (fun _ => rfl) (fun _ => ?_)
  refine x_aload_n dX5_init_26 rfl ?_
  refine p_new z6 (by decide) rfl rfl dX5_init_27 rfl ckX5_7 isX2 inX2 (by decide) (by decide) (fun _ => ?_)
  refine x_dup_r dX5_init_30 ?_
  refine p_callI (as := []) z7 okX2_init lkX5_9 dX5_init_31 rfl (p_market mk21 z7).1 (by omega) rfl (fun v hv => by cases hv) (Nat.le_of_ble_eq_true rfl) (by decide) (cat8 rfl) (by decide) (by decide) ?_
  refine p_putR z8 fkX5_19 dX5_init_34 (by decide) rfl rfl (by decide) rfl rfl rfl (fun _ => rfl) (fun _ => rfl) (fun _ => ?_)
  refine x_aload_n dX5_init_37 rfl ?_
  refine p_new z9 (by decide) rfl rfl dX5_init_38 rfl ckX5_22 isX1 inX1 (by decide) (by decide) (fun _ => ?_)
  refine x_dup_r dX5_init_41 ?_
  refine p_callI (as := []) z10 okX1_init lkX5_24 dX5_init_42 rfl (p_hist z10).1 (by omega) rfl (fun v hv => by cases hv) (Nat.le_of_ble_eq_true rfl) (by decide) (cat8 rfl) (by decide) (by decide) ?_
  refine p_putR z11 fkX5_25 dX5_init_45 (by decide) rfl rfl (by decide) rfl rfl rfl (fun _ => rfl) (fun _ => rfl) (fun _ => ?_)
  refine x_aload_n dX5_init_48 rfl ?_
  refine p_new z12 (by decide) rfl rfl dX5_init_49 rfl ckX5_29 isX3 inX3 (by decide) (by decide) (fun _ => ?_)
  refine x_dup_r dX5_init_52 ?_
  refine p_callIN (as := []) z13 okX3_init nsX5_31 dX5_init_53 rfl (p_pad z13).1 (by omega) rfl (fun v hv => by cases hv) (Nat.le_of_ble_eq_true rfl) (by decide) (cat8 rfl) (by decide) (by decide) ?_
  refine p_putR z14 fkX5_32 dX5_init_56 (by decide) rfl rfl (by decide) rfl rfl rfl (fun _ => rfl) (fun _ => rfl) (fun _ => ?_)
  refine x_aload_n dX5_init_59 rfl ?_
  refine p_new z15 (by decide) rfl rfl dX5_init_60 rfl ckX5_36 isX0 inX0 (by decide) (by decide) (fun _ => ?_)
  refine x_dup_r dX5_init_63 ?_
  refine p_callIN (as := []) z16 okX0_init nsX5_38 dX5_init_64 rfl (p_cs z16).1 (by omega) rfl (fun v hv => by cases hv) (Nat.le_of_ble_eq_true rfl) (by decide) (cat8 rfl) (by decide) (by decide) ?_
  refine p_putR z17 fkX5_39 dX5_init_67 (by decide) rfl rfl (by decide) rfl rfl rfl (fun _ => rfl) (fun _ => rfl) (fun _ => ?_)
  refine x_aload_n dX5_init_70 rfl ?_
  refine p_new z18 (by decide) rfl rfl dX5_init_71 rfl ckX5_43 isX4 inX4 (by decide) (by decide) (fun _ => ?_)
  refine x_dup_r dX5_init_74 ?_
  refine p_callIN (as := []) z19 okX4_init nsX5_45 dX5_init_75 rfl (p_ts z19).1 (by omega) rfl (fun v hv => by cases hv) (Nat.le_of_ble_eq_true rfl) (by decide) (cat8 rfl) (by decide) (by decide) ?_
  refine p_putR z20 fkX5_46 dX5_init_78 (by decide) rfl rfl (by decide) rfl rfl rfl (fun _ => rfl) (fun _ => rfl) (fun _ => ?_)
  refine x_aload_n dX5_init_81 rfl ?_
  refine x_iconstv (v := -1) dX5_init_82 (by decide) ?_
  refine p_putI z21 fkX5_50 dX5_init_83 (by decide) rfl rfl rfl rfl rfl (fun _ => ?_)
  exact x_return dX5_init_86 rfl
def iniR (M : Mem) : Mem := updM (updM (updM (updM (updM (updM (updM (updM (updM (updM (updM (updM (updM (updM (updM (updM (updM (updM (updM (updM (updM (M) 84 0 1) 84 1 1) 84 2 1) 84 4 1) 84 6 1) 84 8 (-4)) 84 9 (-4)) 84 10 1) 84 12 1) 84 13 1) 84 14 1) 84 15 1) 85 7 (7)) 85 8 (1)) 85 9 (-4)) 85 10 (3)) 85 12 (3)) 85 14 (3)) 85 16 (3)) 85 18 (3)) 85 20 (3)
