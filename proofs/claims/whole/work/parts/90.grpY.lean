theorem r_day {M : Mem} (hG : Good (M 85)) {K : Nat} (hK : K ≤ 4) (hk : M 84 3 = nI K) : ∃ M' : Mem, Y 4 mX6_day 0 (lent 1 [.ref 84]) [] M (some (.int (thrV (M 85)))) M' ∧ RQ M M' (passV (M 85)) K := by
  have hV := hG.1
  have hrec := r_record hK hk
  have e85 : recM M K 85 = M 85 := rec_85
  have hV1 : WF (recM M K 85) := by rw [e85]; exact hV
  have hG1 : Good (recM M K 85) := by rw [e85]; exact hG
  have hp := r_passes hG1
  rw [e85] at hp
  refine ⟨_, ?_, RQ_set⟩
  skip
  refine x_aload_n dX6_day_0 rfl ?_
  refine y_callV0 okX6_record lkX6_108 dX6_day_1 (by decide) rfl ((hrec.more (d' := 3) (by omega))) (by omega) (Nat.le_of_ble_eq_true rfl) rfl rfl (cat8 rfl) ?_
  refine x_aload_n dX6_day_4 rfl ?_
  refine y_callV0 okX6_passes lkX6_127 dX6_day_5 (by decide) rfl (hp) (by omega) (Nat.le_of_ble_eq_true rfl) rfl rfl (cat8 rfl) ?_
  exact y_ret dX6_day_8 rfl (rfl) (rfl) (rfl)
theorem r_call {M : Mem} (hV : WF (M 85)) {K : Nat} (hK : K ≤ 4) (hk : M 84 3 = nI K) : ∃ M' : Mem, Y 7 mX6_call 0 (lent 1 [.ref 84]) [] M (some (.int (mstV (M 85) (cirN (M 85))))) M' ∧ RQ M M' (callW (M 85)) K := by
  have hrec := r_record hK hk
  have e85 : recM M K 85 = M 85 := rec_85
  have hV1 : WF (recM M K 85) := by rw [e85]; exact hV
  obtain ⟨M2, s2, p1, p2, p3⟩ := r_calls hV1
  rw [e85] at s2 p1
  refine ⟨M2, ?_, RQ_of p1 (fun c h1 h2 h3 => p3 c h1 h2 (by omega) (by omega) (by omega) (by omega) (by omega)) (fun i h _ => p2 i h)⟩
  skip
  refine x_aload_n dX6_call_0 rfl ?_
  refine y_callV0 okX6_record lkX6_108 dX6_call_1 (by decide) rfl ((hrec.more (d' := 6) (by omega))) (by omega) (Nat.le_of_ble_eq_true rfl) rfl rfl (cat8 rfl) ?_
  refine x_aload_n dX6_call_4 rfl ?_
  refine y_callV0 okX6_calls lkX6_123 dX6_call_5 (by decide) rfl (s2) (by omega) (Nat.le_of_ble_eq_true rfl) rfl rfl (cat8 rfl) ?_
  exact y_ret dX6_call_8 rfl (rfl) (rfl) (rfl)
theorem r_barter1 {M : Mem} (hV : WF (M 85)) {K : Nat} (hK : K ≤ 4) (hk : M 84 3 = nI K) {a b : Nat} (ha : a < nT (M 85)) (hb : b < nT (M 85)) (hab : bothB (M 85) (nI a) (nI b) = true) : ∃ M' : Mem, Y 5 mX6_barter 0 (lent 3 [.ref 84, .int (nI a), .int (nI b)]) [] M (some (.int (bartR (M 85) a b))) M' ∧ RQ M M' (bartV (M 85) a b) K := by
  have hrec := r_record hK hk
  have e85 : recM M K 85 = M 85 := rec_85
  have hV1 : WF (recM M K 85) := by rw [e85]; exact hV
  have hh := r_arePair hV (a := nI a) (b := nI b)
  rw [hab] at hh
  obtain ⟨M2, s2, p1, p2⟩ := r_barters (M := recM M K) hV1 (a := a) (b := b) (by rw [e85]; exact ha) (by rw [e85]; exact hb)
  rw [e85] at s2 p1
  refine ⟨M2, ?_, RQ_of p1 (fun c h1 h2 h3 => p2 c h2 (by omega) (by omega)) (fun i _ _ => by rw [p2 84 (by omega) (by omega) (by omega)])⟩
  skip
  refine x_aload_n dX6_barter_0 rfl ?_
  refine x_iload_n dX6_barter_1 rfl ?_
  refine x_iload_n dX6_barter_2 rfl ?_
  refine y_callV (as := [_, _]) okX6_arePair lkX6_117 dX6_barter_3 rfl (by decide) rfl ((hh.more (d' := 4) (by omega))) (by omega) rfl (by simp [Value.category]) (Nat.le_of_ble_eq_true rfl) rfl rfl (cat8 rfl) ?_
  refine x_if_ne 11 dX6_barter_6 (by decide) (fun c_6 => ?_) (fun c_6 => ?_)
  · refine x_aload_n dX6_barter_11 rfl ?_
    refine y_callV0 okX6_record lkX6_108 dX6_barter_12 (by decide) rfl ((hrec.more (d' := 4) (by omega))) (by omega) (Nat.le_of_ble_eq_true rfl) rfl rfl (cat8 rfl) ?_
    refine x_aload_n dX6_barter_15 rfl ?_
    refine x_iload_n dX6_barter_16 rfl ?_
    refine x_iload_n dX6_barter_17 rfl ?_
    refine y_callV (as := [_, _]) okX6_barters lkX6_120 dX6_barter_18 rfl (by decide) rfl (s2) (by omega) rfl (by simp [Value.category]) (Nat.le_of_ble_eq_true rfl) rfl rfl (cat8 rfl) ?_
    exact y_ret dX6_barter_21 rfl (rfl) (rfl) (rfl)
  · exact absurd c_6 (by decide)
theorem r_barter0 {M : Mem} (hV : WF (M 85)) {a b : Int32} (hab : bothB (M 85) a b = false) : Y 5 mX6_barter 0 (lent 3 [.ref 84, .int a, .int b]) [] M (some (.int (-1))) M := by
  have hh := r_arePair hV (a := a) (b := b)
  rw [hab] at hh
  skip
  refine x_aload_n dX6_barter_0 rfl ?_
  refine x_iload_n dX6_barter_1 rfl ?_
  refine x_iload_n dX6_barter_2 rfl ?_
  refine y_callV (as := [_, _]) okX6_arePair lkX6_117 dX6_barter_3 rfl (by decide) rfl ((hh.more (d' := 4) (by omega))) (by omega) rfl (by simp [Value.category]) (Nat.le_of_ble_eq_true rfl) rfl rfl (cat8 rfl) ?_
  refine x_if_ne 11 dX6_barter_6 (by decide) (fun c_6 => ?_) (fun c_6 => ?_)
  · exact absurd c_6 (by decide)
  · refine x_iconstv (v := -1) dX6_barter_9 (by decide) ?_
    exact y_ret dX6_barter_10 rfl (rfl) (rfl) (rfl)
theorem r_come1 {M : Mem} (hV : WF (M 85)) {K : Nat} (hK : K ≤ 4) (hk : M 84 3 = nI K) {mk w : Int32} (hm : 0 ≤ mk ∧ mk < 6) (hw : 0 ≤ w ∧ w ≤ 63) (h6 : nT (M 85) < 7) : ∃ M' : Mem, Y 2 mX6_come 0 (lent 3 [.ref 84, .int mk, .int w]) [] M (some (.int (M 85 1))) M' ∧ RQ M M' (comeV (M 85) mk w) K := by
  have hrec := r_record hK hk
  have e85 : recM M K 85 = M 85 := rec_85
  have hV1 : WF (recM M K 85) := by rw [e85]; exact hV
  obtain ⟨hn1, hn2⟩ := WF_n hV
  have hne : ¬ M 85 1 = 7 := by rw [hn2]; exact fun q => absurd ((nI_eq (a := nT (M 85)) (b := 7) (by omega) (by decide)).mp q) (by omega)
  have s2 := r_comes (M := recM M K) (mk := mk) (w := w) (by rw [e85]; exact hn2) (by rw [e85]; exact h6)
  rw [e85] at s2
  have hi := r_isKind (M := M) (k := mk)
  rw [in_bitl.mpr hm] at hi
  have hj := r_in (M := M) (v := w) (a := 0) (b := 63)
  rw [in_bits.mpr hw] at hj
  refine ⟨_, ?_, RQ_set⟩
  skip
  refine x_iload_n dX6_come_0 rfl ?_
  refine y_callS (as := [_]) okX6_isKind lkX6_105 dX6_come_1 rfl (hi) (by omega) rfl (by simp [Value.category]) (Nat.le_of_ble_eq_true rfl) (cat8 rfl) ?_
  refine x_if_eq 17 dX6_come_4 (by decide) (fun c_4 => ?_) (fun c_4 => ?_)
  · exact absurd c_4 (by decide)
  · refine x_iload_n dX6_come_7 rfl ?_
    refine x_iconstv (v := 0) dX6_come_8 (by decide) ?_
    refine x_bipushv (v := 63) dX6_come_9 (by decide) ?_
    refine y_callS (as := [_, _, _]) okX6_in lkX6_51 dX6_come_11 rfl ((hj.more (d' := 1) (by omega))) (by omega) rfl (by simp [Value.category]) (Nat.le_of_ble_eq_true rfl) (cat8 rfl) ?_
    refine x_if_ne 19 dX6_come_14 (by decide) (fun c_14 => ?_) (fun c_14 => ?_)
    · refine x_aload_n dX6_come_19 rfl ?_
      refine y_getR fkX6_7 dX6_come_20 (by decide) rfl rfl ?_
      refine x_iconstv (v := 1) dX6_come_23 (by decide) ?_
      refine y_ialdn (j := 1) dX6_come_24 (by decide) rfl (by decide) (by decide) ?_
      refine x_bipushv (v := 7) dX6_come_25 (by decide) ?_
      refine x_icmp_ne 33 dX6_come_27 (by decide) (fun c_27 => ?_) (fun c_27 => ?_)
      · refine x_aload_n dX6_come_33 rfl ?_
        refine y_callV0 okX6_record lkX6_108 dX6_come_34 (by decide) rfl ((hrec.more (d' := 1) (by omega))) (by omega) (Nat.le_of_ble_eq_true rfl) rfl rfl (cat8 rfl) ?_
        refine x_aload_n dX6_come_37 rfl ?_
        refine x_iload_n dX6_come_38 rfl ?_
        refine x_iload_n dX6_come_39 rfl ?_
        refine y_callV (as := [_, _]) okX6_comes lkX6_111 dX6_come_40 rfl (by decide) rfl (s2) (by omega) rfl (by simp [Value.category]) (Nat.le_of_ble_eq_true rfl) rfl rfl (cat8 rfl) ?_
        exact y_ret dX6_come_43 rfl (rfl) (rfl) (rfl)
      · exact absurd c_27 hne
    · exact absurd c_14 (by decide)
theorem r_comeL {M : Mem} {mk w : Int32} (hm : 0 ≤ mk ∧ mk < 6) (hw : 0 ≤ w ∧ w ≤ 63) (h7 : M 85 1 = 7) : Y 2 mX6_come 0 (lent 3 [.ref 84, .int mk, .int w]) [] M (some (.int (-3))) M := by
  have hi := r_isKind (M := M) (k := mk)
  rw [in_bitl.mpr hm] at hi
  have hj := r_in (M := M) (v := w) (a := 0) (b := 63)
  rw [in_bits.mpr hw] at hj
  skip
  refine x_iload_n dX6_come_0 rfl ?_
  refine y_callS (as := [_]) okX6_isKind lkX6_105 dX6_come_1 rfl (hi) (by omega) rfl (by simp [Value.category]) (Nat.le_of_ble_eq_true rfl) (cat8 rfl) ?_
  refine x_if_eq 17 dX6_come_4 (by decide) (fun c_4 => ?_) (fun c_4 => ?_)
  · exact absurd c_4 (by decide)
  · refine x_iload_n dX6_come_7 rfl ?_
    refine x_iconstv (v := 0) dX6_come_8 (by decide) ?_
    refine x_bipushv (v := 63) dX6_come_9 (by decide) ?_
    refine y_callS (as := [_, _, _]) okX6_in lkX6_51 dX6_come_11 rfl ((hj.more (d' := 1) (by omega))) (by omega) rfl (by simp [Value.category]) (Nat.le_of_ble_eq_true rfl) (cat8 rfl) ?_
    refine x_if_ne 19 dX6_come_14 (by decide) (fun c_14 => ?_) (fun c_14 => ?_)
    · refine x_aload_n dX6_come_19 rfl ?_
      refine y_getR fkX6_7 dX6_come_20 (by decide) rfl rfl ?_
      refine x_iconstv (v := 1) dX6_come_23 (by decide) ?_
      refine y_ialdn (j := 1) dX6_come_24 (by decide) rfl (by decide) (by decide) ?_
      rw [h7]
      refine x_bipushv (v := 7) dX6_come_25 (by decide) ?_
      refine x_icmp_ne 33 dX6_come_27 (by decide) (fun c_27 => ?_) (fun c_27 => ?_)
      · exact absurd rfl c_27
      · refine x_bipushv (v := -3) dX6_come_30 (by decide) ?_
        exact y_ret dX6_come_32 rfl (rfl) (rfl) (rfl)
    · exact absurd c_14 (by decide)
theorem r_come0 {M : Mem} {mk w : Int32} (hx : ¬ ((0 ≤ mk ∧ mk < 6) ∧ (0 ≤ w ∧ w ≤ 63))) : Y 2 mX6_come 0 (lent 3 [.ref 84, .int mk, .int w]) [] M (some (.int (-1))) M := by
  skip
  refine x_iload_n dX6_come_0 rfl ?_
  refine y_callS (as := [_]) okX6_isKind lkX6_105 dX6_come_1 rfl (r_isKind) (by omega) rfl (by simp [Value.category]) (Nat.le_of_ble_eq_true rfl) (cat8 rfl) ?_
  refine x_if_eq 17 dX6_come_4 (by decide) (fun c_4 => ?_) (fun c_4 => ?_)
  · refine x_iconstv (v := -1) dX6_come_17 (by decide) ?_
    exact y_ret dX6_come_18 rfl (rfl) (rfl) (rfl)
  · refine x_iload_n dX6_come_7 rfl ?_
    refine x_iconstv (v := 0) dX6_come_8 (by decide) ?_
    refine x_bipushv (v := 63) dX6_come_9 (by decide) ?_
    refine y_callS (as := [_, _, _]) okX6_in lkX6_51 dX6_come_11 rfl ((r_in.more (d' := 1) (by omega))) (by omega) rfl (by simp [Value.category]) (Nat.le_of_ble_eq_true rfl) (cat8 rfl) ?_
    refine x_if_ne 19 dX6_come_14 (by decide) (fun c_14 => ?_) (fun c_14 => ?_)
    · exact absurd ⟨in_bitl.mp (b2i_nz c_4), in_bits.mp (b2i_nz c_14)⟩ hx
    · refine x_iconstv (v := -1) dX6_come_17 (by decide) ?_
      exact y_ret dX6_come_18 rfl (rfl) (rfl) (rfl)
theorem y_comeL {M : Mem} {mk w : Int32} (hm : 0 ≤ mk ∧ mk < 6) (hw : 0 ≤ w ∧ w ≤ 63) (h7 : M 1 7 = 7) : Y 3 mX5_come 0 (lent 3 [.ref 0, .int mk, .int w]) [] M (some (.int (-3))) M := by
  have hi := y_isKind (M := M) (k := mk)
  rw [in_bitl.mpr hm] at hi
  have hj := y_isSet (M := M) (k := w)
  rw [in_bits.mpr hw] at hj
  skip
  refine x_iload_n dX5_come_0 rfl ?_
  refine y_callS (as := [_]) okX5_isKind lkX5_54 dX5_come_1 rfl (hi) (by omega) rfl (by simp [Value.category]) (Nat.le_of_ble_eq_true rfl) (cat8 rfl) ?_
  refine x_if_eq 14 dX5_come_4 (by decide) (fun c_4 => ?_) (fun c_4 => ?_)
  · exact absurd c_4 (by decide)
  · refine x_iload_n dX5_come_7 rfl ?_
    refine y_callS (as := [_]) okX5_isSetOfKinds lkX5_58 dX5_come_8 rfl (hj) (by omega) rfl (by simp [Value.category]) (Nat.le_of_ble_eq_true rfl) (cat8 rfl) ?_
    refine x_if_ne 16 dX5_come_11 (by decide) (fun c_11 => ?_) (fun c_11 => ?_)
    · refine x_aload_n dX5_come_16 rfl ?_
      refine y_getR fkX5_10 dX5_come_17 (by decide) rfl rfl ?_
      refine y_getI fkX5_61 dX5_come_20 (by decide) rfl rfl ?_
      rw [h7]
      refine x_bipushv (v := 7) dX5_come_23 (by decide) ?_
      refine x_icmp_lt 31 dX5_come_25 (by decide) (fun c_25 => ?_) (fun c_25 => ?_)
      · exact absurd c_25 (by decide)
      · refine x_bipushv (v := -3) dX5_come_28 (by decide) ?_
        exact y_ret dX5_come_30 rfl (rfl) (rfl) (rfl)
    · exact absurd c_11 (by decide)
theorem y_come0 {M : Mem} {mk w : Int32} (hx : ¬ ((0 ≤ mk ∧ mk < 6) ∧ (0 ≤ w ∧ w ≤ 63))) : Y 3 mX5_come 0 (lent 3 [.ref 0, .int mk, .int w]) [] M (some (.int (-1))) M := by
  skip
  refine x_iload_n dX5_come_0 rfl ?_
  refine y_callS (as := [_]) okX5_isKind lkX5_54 dX5_come_1 rfl (y_isKind) (by omega) rfl (by simp [Value.category]) (Nat.le_of_ble_eq_true rfl) (cat8 rfl) ?_
  refine x_if_eq 14 dX5_come_4 (by decide) (fun c_4 => ?_) (fun c_4 => ?_)
  · refine x_iconstv (v := -1) dX5_come_14 (by decide) ?_
    exact y_ret dX5_come_15 rfl (rfl) (rfl) (rfl)
  · refine x_iload_n dX5_come_7 rfl ?_
    refine y_callS (as := [_]) okX5_isSetOfKinds lkX5_58 dX5_come_8 rfl (y_isSet) (by omega) rfl (by simp [Value.category]) (Nat.le_of_ble_eq_true rfl) (cat8 rfl) ?_
    refine x_if_ne 16 dX5_come_11 (by decide) (fun c_11 => ?_) (fun c_11 => ?_)
    · exact absurd ⟨in_bitl.mp (b2i_nz c_4), in_bits.mp (b2i_nz c_11)⟩ hx
    · refine x_iconstv (v := -1) dX5_come_14 (by decide) ?_
      exact y_ret dX5_come_15 rfl (rfl) (rfl) (rfl)
theorem y_want0 {M : Mem} {V : Row} (hR : RM M 1 V) (hV : WF V) {t x : Int32} (hx : ¬ (hasB V t = true ∧ 0 ≤ x ∧ x ≤ 63)) : Y 3 mX5_want 0 (lent 4 [.ref 0, .int t, .int x]) [] M (some (.int (-1))) M := by
  skip
  refine x_aload_n dX5_want_0 rfl ?_
  refine y_getR fkX5_10 dX5_want_1 (by decide) rfl rfl ?_
  refine x_iload_n dX5_want_4 rfl ?_
  refine y_callV (as := [_]) okX2_has lkX5_72 dX5_want_5 rfl (by decide) rfl (y_has mk1 hR hV) (by omega) rfl (by simp [Value.category]) (Nat.le_of_ble_eq_true rfl) rfl rfl (cat8 rfl) ?_
  refine x_if_eq 18 dX5_want_8 (by decide) (fun c_8 => ?_) (fun c_8 => ?_)
  · refine x_iconstv (v := -1) dX5_want_18 (by decide) ?_
    exact y_ret dX5_want_19 rfl (rfl) (rfl) (rfl)
  · refine x_iload_n dX5_want_11 rfl ?_
    refine y_callS (as := [_]) okX5_isSetOfKinds lkX5_58 dX5_want_12 rfl (y_isSet) (by omega) rfl (by simp [Value.category]) (Nat.le_of_ble_eq_true rfl) (cat8 rfl) ?_
    refine x_if_ne 20 dX5_want_15 (by decide) (fun c_15 => ?_) (fun c_15 => ?_)
    · exact absurd ⟨b2i_nz c_8, in_bits.mp (b2i_nz c_15)⟩ hx
    · refine x_iconstv (v := -1) dX5_want_18 (by decide) ?_
      exact y_ret dX5_want_19 rfl (rfl) (rfl) (rfl)
theorem y_life0 {M : Mem} {k x : Int32} (hx : ¬ ((0 ≤ k ∧ k < 6) ∧ (1 ≤ x ∧ x ≤ 9))) : Y 3 mX5_life 0 (lent 4 [.ref 0, .int k, .int x]) [] M (some (.int (-1))) M := by
  skip
  refine x_iload_n dX5_life_0 rfl ?_
  refine y_callS (as := [_]) okX5_isKind lkX5_54 dX5_life_1 rfl (y_isKind) (by omega) rfl (by simp [Value.category]) (Nat.le_of_ble_eq_true rfl) (cat8 rfl) ?_
  refine x_if_eq 18 dX5_life_4 (by decide) (fun c_4 => ?_) (fun c_4 => ?_)
  · refine x_iconstv (v := -1) dX5_life_18 (by decide) ?_
    exact y_ret dX5_life_19 rfl (rfl) (rfl) (rfl)
  · refine x_iload_n dX5_life_7 rfl ?_
    refine x_iconstv (v := 1) dX5_life_8 (by decide) ?_
    refine x_icmp_lt 18 dX5_life_9 (by decide) (fun c_9 => ?_) (fun c_9 => ?_)
    · refine x_iconstv (v := -1) dX5_life_18 (by decide) ?_
      exact y_ret dX5_life_19 rfl (rfl) (rfl) (rfl)
    · refine x_iload_n dX5_life_12 rfl ?_
      refine x_bipushv (v := 9) dX5_life_13 (by decide) ?_
      refine x_icmp_le 20 dX5_life_15 (by decide) (fun c_15 => ?_) (fun c_15 => ?_)
      · exact absurd ⟨in_bitl.mp (b2i_nz c_4), Int32.not_lt.mp c_9, c_15⟩ hx
      · refine x_iconstv (v := -1) dX5_life_18 (by decide) ?_
        exact y_ret dX5_life_19 rfl (rfl) (rfl) (rfl)
theorem y_go0 {M : Mem} {V : Row} (hR : RM M 1 V) (hV : WF V) {t : Int32} (hx : hasB V t = false) : Y 3 mX5_go 0 (lent 3 [.ref 0, .int t]) [] M (some (.int (-1))) M := by
  have hh := y_has mk1 hR hV (t := t)
  rw [hx] at hh
  skip
  refine x_aload_n dX5_go_0 rfl ?_
  refine y_getR fkX5_10 dX5_go_1 (by decide) rfl rfl ?_
  refine x_iload_n dX5_go_4 rfl ?_
  refine y_callV (as := [_]) okX2_has lkX5_72 dX5_go_5 rfl (by decide) rfl (hh) (by omega) rfl (by simp [Value.category]) (Nat.le_of_ble_eq_true rfl) rfl rfl (cat8 rfl) ?_
  refine x_if_ne 13 dX5_go_8 (by decide) (fun c_8 => ?_) (fun c_8 => ?_)
  · exact absurd c_8 (by decide)
  · refine x_iconstv (v := -1) dX5_go_11 (by decide) ?_
    exact y_ret dX5_go_12 rfl (rfl) (rfl) (rfl)
theorem y_barter0 {M : Mem} {V : Row} (hR : RM M 1 V) (hV : WF V) {a b : Int32} (hx : bothB V a b = false) : Y 6 mX5_barter 0 (lent 3 [.ref 0, .int a, .int b]) [] M (some (.int (-1))) M := by
  have hh := y_hasBoth mk1 hR hV (a := a) (b := b)
  rw [hx] at hh
  skip
  refine x_aload_n dX5_barter_0 rfl ?_
  refine y_getR fkX5_10 dX5_barter_1 (by decide) rfl rfl ?_
  refine x_iload_n dX5_barter_4 rfl ?_
  refine x_iload_n dX5_barter_5 rfl ?_
  refine y_callV (as := [_, _]) okX2_hasBoth lkX5_98 dX5_barter_6 rfl (by decide) rfl ((hh.more (d' := 5) (by omega))) (by omega) rfl (by simp [Value.category]) (Nat.le_of_ble_eq_true rfl) rfl rfl (cat8 rfl) ?_
  refine x_if_ne 14 dX5_barter_9 (by decide) (fun c_9 => ?_) (fun c_9 => ?_)
  · exact absurd c_9 (by decide)
  · refine x_iconstv (v := -1) dX5_barter_12 (by decide) ?_
    exact y_ret dX5_barter_13 rfl (rfl) (rfl) (rfl)
theorem r_lays {M : Mem} (hV : WF (M 85)) {K : Nat} (hK : K ≤ 4) (hk : M 84 3 = nI K) {i : Nat} (hi : i < 57) {x : Int32} : Y 1 mX6_lays 0 (lent 4 [.ref 84, .int (nI i), .int x]) [] M (some (.int (M 85 i))) (setR (recM M K) 85 (upd (M 85) i x)) := by
  have hrec := r_record hK hk
  have e85 : recM M K 85 = M 85 := rec_85
  have hV1 : WF (recM M K 85) := by rw [e85]; exact hV
  have hu : updM (recM M K) 85 i x = setR (recM M K) 85 (upd (M 85) i x) := by rw [updM_row, e85]
  skip
  refine x_aload_n dX6_lays_0 rfl ?_
  refine y_callV0 okX6_record lkX6_108 dX6_lays_1 (by decide) rfl (hrec) (by omega) (Nat.le_of_ble_eq_true rfl) rfl rfl (cat8 rfl) ?_
  refine x_aload_n dX6_lays_4 rfl ?_
  refine y_getR fkX6_7 dX6_lays_5 (by decide) rfl rfl ?_
  refine x_iload_n dX6_lays_8 rfl ?_
  refine y_ialdn (j := i) dX6_lays_9 (by decide) rfl (ixN (by omega)) (by omega) ?_
  rw [e85]
  refine x_istore_n dX6_lays_10 (by decide) rfl ?_
  refine x_aload_n dX6_lays_11 rfl ?_
  refine y_getR fkX6_7 dX6_lays_12 (by decide) rfl rfl ?_
  refine x_iload_n dX6_lays_15 rfl ?_
  refine x_iload_n dX6_lays_16 rfl ?_
  refine y_iastn (j := i) dX6_lays_17 (by decide) rfl (ixN (by omega)) (by omega) ?_
  refine x_iload_n dX6_lays_18 rfl ?_
  exact y_ret dX6_lays_19 rfl (rfl) (rfl) (hu)
theorem r_want1 {M : Mem} (hV : WF (M 85)) {K : Nat} (hK : K ≤ 4) (hk : M 84 3 = nI K) {t : Nat} (ht : t < nT (M 85)) {x : Int32} (hx : 0 ≤ x ∧ x ≤ 63) : ∃ M' : Mem, Y 2 mX6_want 0 (lent 3 [.ref 84, .int (nI t), .int x]) [] M (some (.int (M 85 (23 + 5 * t)))) M' ∧ RQ M M' (upd (M 85) (23 + 5 * t) x) K := by
  have h7 := b6 hV ht
  have hl := r_lays hV hK hk (i := 23 + 5 * t) (by omega) (x := x)
  have hh := r_isTrader hV (t := nI t)
  rw [hasB_nI hV (by omega), decide_eq_true ht] at hh
  have hj := r_in (M := M) (v := x) (a := 0) (b := 63)
  rw [in_bits.mpr hx] at hj
  refine ⟨_, ?_, RQ_set⟩
  skip
  refine x_aload_n dX6_want_0 rfl ?_
  refine x_iload_n dX6_want_1 rfl ?_
  refine y_callV (as := [_]) okX6_isTrader lkX6_55 dX6_want_2 rfl (by decide) rfl (hh) (by omega) rfl (by simp [Value.category]) (Nat.le_of_ble_eq_true rfl) rfl rfl (cat8 rfl) ?_
  refine x_if_eq 31 dX6_want_5 (by decide) (fun c_5 => ?_) (fun c_5 => ?_)
  · exact absurd c_5 (by decide)
  · refine x_iload_n dX6_want_8 rfl ?_
    refine x_iconstv (v := 0) dX6_want_9 (by decide) ?_
    refine x_bipushv (v := 63) dX6_want_10 (by decide) ?_
    refine y_callS (as := [_, _, _]) okX6_in lkX6_51 dX6_want_12 rfl ((hj.more (d' := 1) (by omega))) (by omega) rfl (by simp [Value.category]) (Nat.le_of_ble_eq_true rfl) (cat8 rfl) ?_
    refine x_if_eq 31 dX6_want_15 (by decide) (fun c_15 => ?_) (fun c_15 => ?_)
    · exact absurd c_15 (by decide)
    · refine x_aload_n dX6_want_18 rfl ?_
      refine x_iload_n dX6_want_19 rfl ?_
      refine x_iconstv (v := 1) dX6_want_20 (by decide) ?_
      refine y_callS (as := [_, _]) okX6_at lkX6_59 dX6_want_21 rfl ((r_at1k.more (d' := 1) (by omega))) (by omega) rfl (by simp [Value.category]) (Nat.le_of_ble_eq_true rfl) (cat8 rfl) ?_
      refine x_iload_n dX6_want_24 rfl ?_
      refine y_callV (as := [_, _]) okX6_lays lkX6_114 dX6_want_25 rfl (by decide) rfl (hl) (by omega) rfl (by simp [Value.category]) (Nat.le_of_ble_eq_true rfl) rfl rfl (cat8 rfl) ?_
      refine x_goto 32 dX6_want_28 (by decide) ?_
      exact y_ret dX6_want_32 rfl (rfl) (rfl) (rfl)
theorem r_want0 {M : Mem} (hV : WF (M 85)) {t x : Int32} (hx : ¬ (hasB (M 85) t = true ∧ 0 ≤ x ∧ x ≤ 63)) : Y 2 mX6_want 0 (lent 3 [.ref 84, .int t, .int x]) [] M (some (.int (-1))) M := by
  skip
  refine x_aload_n dX6_want_0 rfl ?_
  refine x_iload_n dX6_want_1 rfl ?_
  refine y_callV (as := [_]) okX6_isTrader lkX6_55 dX6_want_2 rfl (by decide) rfl (r_isTrader hV) (by omega) rfl (by simp [Value.category]) (Nat.le_of_ble_eq_true rfl) rfl rfl (cat8 rfl) ?_
  refine x_if_eq 31 dX6_want_5 (by decide) (fun c_5 => ?_) (fun c_5 => ?_)
  · refine x_iconstv (v := -1) dX6_want_31 (by decide) ?_
    exact y_ret dX6_want_32 rfl (rfl) (rfl) (rfl)
  · refine x_iload_n dX6_want_8 rfl ?_
    refine x_iconstv (v := 0) dX6_want_9 (by decide) ?_
    refine x_bipushv (v := 63) dX6_want_10 (by decide) ?_
    refine y_callS (as := [_, _, _]) okX6_in lkX6_51 dX6_want_12 rfl ((r_in.more (d' := 1) (by omega))) (by omega) rfl (by simp [Value.category]) (Nat.le_of_ble_eq_true rfl) (cat8 rfl) ?_
    refine x_if_eq 31 dX6_want_15 (by decide) (fun c_15 => ?_) (fun c_15 => ?_)
    · refine x_iconstv (v := -1) dX6_want_31 (by decide) ?_
      exact y_ret dX6_want_32 rfl (rfl) (rfl) (rfl)
    · exact absurd ⟨b2i_nz c_5, in_bits.mp (b2i_nz c_15)⟩ hx
theorem r_life1 {M : Mem} (hV : WF (M 85)) {K : Nat} (hK : K ≤ 4) (hk : M 84 3 = nI K) {k : Nat} (hk6 : k < 6) {x : Int32} (hx : 1 ≤ x ∧ x ≤ 9) : ∃ M' : Mem, Y 2 mX6_life 0 (lent 3 [.ref 84, .int (nI k), .int x]) [] M (some (.int (M 85 (10 + 2 * k)))) M' ∧ RQ M M' (upd (M 85) (10 + 2 * k) x) K := by
  have hl := r_lays hV hK hk (i := 10 + 2 * k) (by omega) (x := x)
  have hh := r_isKind (M := M) (k := nI k)
  rw [in_bitl.mpr ⟨nI_pos' (by omega), show nI k < 6 from nI_lt (a := k) (b := 6) hk6 (by decide)⟩] at hh
  have hj := r_in (M := M) (v := x) (a := 1) (b := 9)
  rw [in_bits.mpr hx] at hj
  refine ⟨_, ?_, RQ_set⟩
  skip
  refine x_iload_n dX6_life_0 rfl ?_
  refine y_callS (as := [_]) okX6_isKind lkX6_105 dX6_life_1 rfl (hh) (by omega) rfl (by simp [Value.category]) (Nat.le_of_ble_eq_true rfl) (cat8 rfl) ?_
  refine x_if_eq 30 dX6_life_4 (by decide) (fun c_4 => ?_) (fun c_4 => ?_)
  · exact absurd c_4 (by decide)
  · refine x_iload_n dX6_life_7 rfl ?_
    refine x_iconstv (v := 1) dX6_life_8 (by decide) ?_
    refine x_bipushv (v := 9) dX6_life_9 (by decide) ?_
    refine y_callS (as := [_, _, _]) okX6_in lkX6_51 dX6_life_11 rfl ((hj.more (d' := 1) (by omega))) (by omega) rfl (by simp [Value.category]) (Nat.le_of_ble_eq_true rfl) (cat8 rfl) ?_
    refine x_if_eq 30 dX6_life_14 (by decide) (fun c_14 => ?_) (fun c_14 => ?_)
    · exact absurd c_14 (by decide)
    · refine x_aload_n dX6_life_17 rfl ?_
      refine x_iload_n dX6_life_18 rfl ?_
      refine x_iconstv (v := 0) dX6_life_19 (by decide) ?_
      refine y_callS (as := [_, _]) okX6_ofKind lkX6_47 dX6_life_20 rfl ((r_ofKind0k.more (d' := 1) (by omega))) (by omega) rfl (by simp [Value.category]) (Nat.le_of_ble_eq_true rfl) (cat8 rfl) ?_
      refine x_iload_n dX6_life_23 rfl ?_
      refine y_callV (as := [_, _]) okX6_lays lkX6_114 dX6_life_24 rfl (by decide) rfl (hl) (by omega) rfl (by simp [Value.category]) (Nat.le_of_ble_eq_true rfl) rfl rfl (cat8 rfl) ?_
      refine x_goto 31 dX6_life_27 (by decide) ?_
      exact y_ret dX6_life_31 rfl (rfl) (rfl) (rfl)
theorem r_life0 {M : Mem} {k x : Int32} (hx : ¬ ((0 ≤ k ∧ k < 6) ∧ (1 ≤ x ∧ x ≤ 9))) : Y 2 mX6_life 0 (lent 3 [.ref 84, .int k, .int x]) [] M (some (.int (-1))) M := by
  skip
  refine x_iload_n dX6_life_0 rfl ?_
  refine y_callS (as := [_]) okX6_isKind lkX6_105 dX6_life_1 rfl (r_isKind) (by omega) rfl (by simp [Value.category]) (Nat.le_of_ble_eq_true rfl) (cat8 rfl) ?_
  refine x_if_eq 30 dX6_life_4 (by decide) (fun c_4 => ?_) (fun c_4 => ?_)
  · refine x_iconstv (v := -1) dX6_life_30 (by decide) ?_
    exact y_ret dX6_life_31 rfl (rfl) (rfl) (rfl)
  · refine x_iload_n dX6_life_7 rfl ?_
    refine x_iconstv (v := 1) dX6_life_8 (by decide) ?_
    refine x_bipushv (v := 9) dX6_life_9 (by decide) ?_
    refine y_callS (as := [_, _, _]) okX6_in lkX6_51 dX6_life_11 rfl ((r_in.more (d' := 1) (by omega))) (by omega) rfl (by simp [Value.category]) (Nat.le_of_ble_eq_true rfl) (cat8 rfl) ?_
    refine x_if_eq 30 dX6_life_14 (by decide) (fun c_14 => ?_) (fun c_14 => ?_)
    · refine x_iconstv (v := -1) dX6_life_30 (by decide) ?_
      exact y_ret dX6_life_31 rfl (rfl) (rfl) (rfl)
    · exact absurd ⟨in_bitl.mp (b2i_nz c_4), in_bits.mp (b2i_nz c_14)⟩ hx
theorem r_circle1 {M : Mem} (hV : WF (M 85)) {K : Nat} (hK : K ≤ 4) (hk : M 84 3 = nI K) {x : Int32} (hx : 2 ≤ x ∧ x ≤ 7) : ∃ M' : Mem, Y 2 mX6_circle 0 (lent 2 [.ref 84, .int x]) [] M (some (.int (M 85 7))) M' ∧ RQ M M' (upd (M 85) 7 x) K := by
  have hl : Y 1 mX6_lays 0 (lent 4 [.ref 84, .int 7, .int x]) [] M (some (.int (M 85 7))) (setR (recM M K) 85 (upd (M 85) 7 x)) := r_lays hV hK hk (i := 7) (by omega) (x := x)
  have hj := r_in (M := M) (v := x) (a := 2) (b := 7)
  rw [in_bits.mpr hx] at hj
  refine ⟨_, ?_, RQ_set⟩
  skip
  refine x_iload_n dX6_circle_0 rfl ?_
  refine x_iconstv (v := 2) dX6_circle_1 (by decide) ?_
  refine x_bipushv (v := 7) dX6_circle_2 (by decide) ?_
  refine y_callS (as := [_, _, _]) okX6_in lkX6_51 dX6_circle_4 rfl ((hj.more (d' := 1) (by omega))) (by omega) rfl (by simp [Value.category]) (Nat.le_of_ble_eq_true rfl) (cat8 rfl) ?_
  refine x_if_eq 20 dX6_circle_7 (by decide) (fun c_7 => ?_) (fun c_7 => ?_)
  · exact absurd c_7 (by decide)
  · refine x_aload_n dX6_circle_10 rfl ?_
    refine x_bipushv (v := 7) dX6_circle_11 (by decide) ?_
    refine x_iload_n dX6_circle_13 rfl ?_
    refine y_callV (as := [_, _]) okX6_lays lkX6_114 dX6_circle_14 rfl (by decide) rfl (hl) (by omega) rfl (by simp [Value.category]) (Nat.le_of_ble_eq_true rfl) rfl rfl (cat8 rfl) ?_
    refine x_goto 21 dX6_circle_17 (by decide) ?_
    exact y_ret dX6_circle_21 rfl (rfl) (rfl) (rfl)
theorem r_circle0 {M : Mem} {x : Int32} (hx : ¬ (2 ≤ x ∧ x ≤ 7)) : Y 2 mX6_circle 0 (lent 2 [.ref 84, .int x]) [] M (some (.int (-1))) M := by
  skip
  refine x_iload_n dX6_circle_0 rfl ?_
  refine x_iconstv (v := 2) dX6_circle_1 (by decide) ?_
  refine x_bipushv (v := 7) dX6_circle_2 (by decide) ?_
  refine y_callS (as := [_, _, _]) okX6_in lkX6_51 dX6_circle_4 rfl ((r_in.more (d' := 1) (by omega))) (by omega) rfl (by simp [Value.category]) (Nat.le_of_ble_eq_true rfl) (cat8 rfl) ?_
  refine x_if_eq 20 dX6_circle_7 (by decide) (fun c_7 => ?_) (fun c_7 => ?_)
  · refine x_iconstv (v := -1) dX6_circle_20 (by decide) ?_
    exact y_ret dX6_circle_21 rfl (rfl) (rfl) (rfl)
  · exact absurd (in_bits.mp (b2i_nz c_7)) hx
theorem r_lot1 {M : Mem} (hV : WF (M 85)) {K : Nat} (hK : K ≤ 4) (hk : M 84 3 = nI K) {x : Int32} (hx : 0 ≤ x ∧ x ≤ 9999) : ∃ M' : Mem, Y 2 mX6_lot 0 (lent 2 [.ref 84, .int x]) [] M (some (.int (M 85 8))) M' ∧ RQ M M' (upd (M 85) 8 x) K := by
  have hl : Y 1 mX6_lays 0 (lent 4 [.ref 84, .int 8, .int x]) [] M (some (.int (M 85 8))) (setR (recM M K) 85 (upd (M 85) 8 x)) := r_lays hV hK hk (i := 8) (by omega) (x := x)
  have hj := r_in (M := M) (v := x) (a := 0) (b := 9999)
  rw [in_bits.mpr hx] at hj
  refine ⟨_, ?_, RQ_set⟩
  skip
  refine x_iload_n dX6_lot_0 rfl ?_
  refine x_iconstv (v := 0) dX6_lot_1 (by decide) ?_
  refine x_sipushv (v := 9999) dX6_lot_2 (by decide) ?_
  refine y_callS (as := [_, _, _]) okX6_in lkX6_51 dX6_lot_5 rfl ((hj.more (d' := 1) (by omega))) (by omega) rfl (by simp [Value.category]) (Nat.le_of_ble_eq_true rfl) (cat8 rfl) ?_
  refine x_if_eq 21 dX6_lot_8 (by decide) (fun c_8 => ?_) (fun c_8 => ?_)
  · exact absurd c_8 (by decide)
  · refine x_aload_n dX6_lot_11 rfl ?_
    refine x_bipushv (v := 8) dX6_lot_12 (by decide) ?_
    refine x_iload_n dX6_lot_14 rfl ?_
    refine y_callV (as := [_, _]) okX6_lays lkX6_114 dX6_lot_15 rfl (by decide) rfl (hl) (by omega) rfl (by simp [Value.category]) (Nat.le_of_ble_eq_true rfl) rfl rfl (cat8 rfl) ?_
    refine x_goto 22 dX6_lot_18 (by decide) ?_
    exact y_ret dX6_lot_22 rfl (rfl) (rfl) (rfl)
theorem r_lot0 {M : Mem} {x : Int32} (hx : ¬ (0 ≤ x ∧ x ≤ 9999)) : Y 2 mX6_lot 0 (lent 2 [.ref 84, .int x]) [] M (some (.int (-1))) M := by
  skip
  refine x_iload_n dX6_lot_0 rfl ?_
  refine x_iconstv (v := 0) dX6_lot_1 (by decide) ?_
  refine x_sipushv (v := 9999) dX6_lot_2 (by decide) ?_
  refine y_callS (as := [_, _, _]) okX6_in lkX6_51 dX6_lot_5 rfl ((r_in.more (d' := 1) (by omega))) (by omega) rfl (by simp [Value.category]) (Nat.le_of_ble_eq_true rfl) (cat8 rfl) ?_
  refine x_if_eq 21 dX6_lot_8 (by decide) (fun c_8 => ?_) (fun c_8 => ?_)
  · refine x_iconstv (v := -1) dX6_lot_21 (by decide) ?_
    exact y_ret dX6_lot_22 rfl (rfl) (rfl) (rfl)
  · exact absurd (in_bits.mp (b2i_nz c_8)) hx
theorem r_go_l1 {M : Mem} {V : Row} {t n : Nat} (hn : n ≤ 6) (ht : t ≤ n) (h1 : V 1 = nI n) {me : Int32} {M9 : Mem} {r : Option Value} (hx : Y 2 mX6_go 71 [some (.ref 84), some (.int (nI t)), some (.int me), some (.int (nI (22 + 5 * n)))] [] (setR M 85 (go1 V t (5 * (n - t)))) r M9) : ∀ (k i : Nat), i + k = 5 * (n - t) → Y 2 mX6_go 37 [some (.ref 84), some (.int (nI t)), some (.int me), some (.int (nI (22 + 5 * t + i)))] [] (setR M 85 (go1 V t i)) r M9 := by
  intro k
  induction k with
  | zero =>
    intro i hi
    have hi2 : i = 5 * (n - t) := by omega
    subst hi2
    have e1 : go1 V t (5 * (n - t)) 1 = nI n := by rw [go1_lo (by omega)]; exact h1
    have e2 : 22 + 5 * t + 5 * (n - t) = 22 + 5 * n := by omega
    rw [e2]
    skip
    refine x_iload_n dX6_go_37 rfl ?_
    refine x_aload_n dX6_go_38 rfl ?_
    refine y_getR fkX6_7 dX6_go_39 (by decide) rfl rfl ?_
    refine x_iconstv (v := 1) dX6_go_42 (by decide) ?_
    refine y_ialdn (j := 1) dX6_go_43 (by decide) rfl (by decide) (by decide) ?_
    rw [row_at, e1]
    refine x_iconstv (v := 0) dX6_go_44 (by decide) ?_
    refine y_callS (as := [_, _]) okX6_at lkX6_59 dX6_go_45 rfl ((r_at0k.more (d' := 1) (by omega))) (by omega) rfl (by simp [Value.category]) (Nat.le_of_ble_eq_true rfl) (cat8 rfl) ?_
    refine x_icmp_ge 71 dX6_go_48 (by decide) (fun c_48 => ?_) (fun c_48 => ?_)
    · exact hx
    · exact absurd (Int32.le_refl _) c_48
  | succ k ih =>
    intro i hi
    have e1 : go1 V t i 1 = nI n := by rw [go1_lo (by omega)]; exact h1
    have hlt := nI_ge (a := 22 + 5 * t + i) (b := 22 + 5 * n) (by omega) (by omega)
    skip
    refine x_iload_n dX6_go_37 rfl ?_
    refine x_aload_n dX6_go_38 rfl ?_
    refine y_getR fkX6_7 dX6_go_39 (by decide) rfl rfl ?_
    refine x_iconstv (v := 1) dX6_go_42 (by decide) ?_
    refine y_ialdn (j := 1) dX6_go_43 (by decide) rfl (by decide) (by decide) ?_
    rw [row_at, e1]
    refine x_iconstv (v := 0) dX6_go_44 (by decide) ?_
    refine y_callS (as := [_, _]) okX6_at lkX6_59 dX6_go_45 rfl ((r_at0k.more (d' := 1) (by omega))) (by omega) rfl (by simp [Value.category]) (Nat.le_of_ble_eq_true rfl) (cat8 rfl) ?_
    refine x_icmp_ge 71 dX6_go_48 (by decide) (fun c_48 => ?_) (fun c_48 => ?_)
    · exact absurd c_48 hlt
    · refine x_aload_n dX6_go_51 rfl ?_
      refine y_getR fkX6_7 dX6_go_52 (by decide) rfl rfl ?_
      refine x_iload_n dX6_go_55 rfl ?_
      refine x_aload_n dX6_go_56 rfl ?_
      refine y_getR fkX6_7 dX6_go_57 (by decide) rfl rfl ?_
      refine x_iload_n dX6_go_60 rfl ?_
      refine x_iconstv (v := 5) dX6_go_61 (by decide) ?_
      refine x_iadd dX6_go_62 ?_
      rw [show (5 : Int32) = nI 5 from rfl, nI_add]
      refine y_ialdn (j := 22 + 5 * t + i + 5) dX6_go_63 (by decide) rfl (ixN (by omega)) (by omega) ?_
      rw [row_at]
      refine y_iastn (j := 22 + 5 * t + i) dX6_go_64 (by decide) rfl (ixN (by omega)) (by omega) ?_
      rw [updM_row, row_row, row_at, go1_s]
      refine x_iincv (v := 1) dX6_go_65 rfl (by decide) rfl (by decide) ?_
      refine x_goto 37 dX6_go_68 (by decide) ?_
      rw [nI_1]
      exact ih (i + 1) (by omega)
theorem r_go_l2 {M : Mem} {V : Row} {t n : Nat} (hn : n ≤ 6) (h1 : V 1 = nI n) {me : Int32} {M9 : Mem} {r : Option Value} (hx : Y 2 mX6_go 100 [some (.ref 84), some (.int (nI t)), some (.int me), some (.int (nI 5))] [] (setR M 85 (go2 V n 5)) r M9) : ∀ (fu i : Nat), i ≤ 5 → 5 - i < fu → Y 2 mX6_go 73 [some (.ref 84), some (.int (nI t)), some (.int me), some (.int (nI i))] [] (setR M 85 (go2 V n i)) r M9 := by
  intro fu
  induction fu with
  | zero => intro i h1 h2; omega
  | succ fu ih =>
    intro i h2 h3
    have e1 : go2 V n i 1 = nI n := by rw [go2_lo (by omega)]; exact h1
    skip
    refine x_iload_n dX6_go_73 rfl ?_
    refine x_iconstv (v := 5) dX6_go_74 (by decide) ?_
    refine x_icmp_ge 100 dX6_go_75 (by decide) (fun c_75 => ?_) (fun c_75 => ?_)
    · have he := eq5 h2 c_75
      subst he
      exact hx
    · have hlt := lt5 h2 c_75
      refine x_aload_n dX6_go_78 rfl ?_
      refine y_getR fkX6_7 dX6_go_79 (by decide) rfl rfl ?_
      refine x_aload_n dX6_go_82 rfl ?_
      refine y_getR fkX6_7 dX6_go_83 (by decide) rfl rfl ?_
      refine x_iconstv (v := 1) dX6_go_86 (by decide) ?_
      refine y_ialdn (j := 1) dX6_go_87 (by decide) rfl (by decide) (by decide) ?_
      rw [row_at, e1]
      refine x_iload_n dX6_go_88 rfl ?_
      refine y_callS (as := [_, _]) okX6_at lkX6_59 dX6_go_89 rfl ((r_at.more (d' := 1) (by omega))) (by omega) rfl (by simp [Value.category]) (Nat.le_of_ble_eq_true rfl) (cat8 rfl) ?_
      refine x_iconstv (v := 0) dX6_go_92 (by decide) ?_
      refine y_iastn (j := 22 + 5 * n + i) dX6_go_93 (by decide) rfl (ixN (by omega)) (by omega) ?_
      rw [updM_row, row_row, row_at, go2_s]
      refine x_iincv (v := 1) dX6_go_94 rfl (by decide) rfl (by decide) ?_
      refine x_goto 73 dX6_go_97 (by decide) ?_
      rw [nI_1]
      exact ih (i + 1) (by omega) (by omega)
theorem r_go1 {M : Mem} (hV : WF (M 85)) {K : Nat} (hK : K ≤ 4) (hk : M 84 3 = nI K) {t : Nat} (ht : t < nT (M 85)) : ∃ M' : Mem, Y 3 mX6_go 0 (lent 4 [.ref 84, .int (nI t)]) [] M (some (.int (M 85 (26 + 5 * t)))) M' ∧ RQ M M' (goV (M 85) t) K := by
  have hrec := r_record hK hk
  have e85 : recM M K 85 = M 85 := rec_85
  have hV1 : WF (recM M K 85) := by rw [e85]; exact hV
  obtain ⟨hn1, hn2⟩ := WF_n hV
  have h7 := b6 hV ht
  obtain ⟨m, hm⟩ : ∃ m, nT (M 85) = m + 1 := ⟨nT (M 85) - 1, by omega⟩
  have hh := r_isTrader hV (t := nI t)
  rw [hasB_nI hV (by omega), decide_eq_true ht] at hh
  have ho := r_of4 (M := recM M K) (k := t) h7
  rw [e85] at ho
  have h1 : upd (M 85) 1 (M 85 1 - 1) 1 = nI m := by rw [pk_us, hn2, hm, nI_s1]
  have h1b : go1 (upd (M 85) 1 (M 85 1 - 1)) t (5 * (m - t)) 1 = nI m := by rw [go1_lo (by omega)]; exact h1
  have e9 : go2 (go1 (upd (M 85) 1 (M 85 1 - 1)) t (5 * (m - t))) m 5 9 = M 85 9 := by rw [go2_lo (by omega), go1_lo (by omega), pk_un (by omega)]
  have hg : ∀ x, x = goS (M 85) t → updM (setR (recM M K) 85 (go2 (go1 (upd (M 85) 1 (M 85 1 - 1)) t (5 * (m - t))) m 5)) 85 9 x = setR (recM M K) 85 (goV (M 85) t) := fun x hx => by
    rw [updM_row, row_row, row_at, hx]
    unfold goV
    rw [hm, Nat.add_sub_cancel]
  refine ⟨setR (recM M K) 85 (goV (M 85) t), ?_, RQ_set⟩
  have h3 : Y 2 mX6_go 100 [some (.ref 84), some (.int (nI t)), some (.int (M 85 (26 + 5 * t))), some (.int (nI 5))] [] (setR (recM M K) 85 (go2 (go1 (upd (M 85) 1 (M 85 1 - 1)) t (5 * (m - t))) m 5)) (some (.int (M 85 (26 + 5 * t)))) (setR (recM M K) 85 (goV (M 85) t)) := by
    skip
    refine x_aload_n dX6_go_100 rfl ?_
    refine y_getR fkX6_7 dX6_go_101 (by decide) rfl rfl ?_
    refine x_bipushv (v := 9) dX6_go_104 (by decide) ?_
    refine x_aload_n dX6_go_106 rfl ?_
    refine y_getR fkX6_7 dX6_go_107 (by decide) rfl rfl ?_
    refine x_bipushv (v := 9) dX6_go_110 (by decide) ?_
    refine y_ialdn (j := 9) dX6_go_112 (by decide) rfl (by decide) (by decide) ?_
    rw [row_at, e9]
    refine x_iload_n dX6_go_113 rfl ?_
    refine x_icmp_ne 122 dX6_go_114 (by decide) (fun c_114 => ?_) (fun c_114 => ?_)
    · refine x_aload_n dX6_go_122 rfl ?_
      refine y_getR fkX6_7 dX6_go_123 (by decide) rfl rfl ?_
      refine x_bipushv (v := 9) dX6_go_126 (by decide) ?_
      refine y_ialdn (j := 9) dX6_go_128 (by decide) rfl (by decide) (by decide) ?_
      rw [row_at, e9]
      refine x_iload_n dX6_go_129 rfl ?_
      refine x_icmp_le 145 dX6_go_130 (by decide) (fun c_130 => ?_) (fun c_130 => ?_)
      · refine x_aload_n dX6_go_145 rfl ?_
        refine y_getR fkX6_7 dX6_go_146 (by decide) rfl rfl ?_
        refine x_bipushv (v := 9) dX6_go_149 (by decide) ?_
        refine y_ialdn (j := 9) dX6_go_151 (by decide) rfl (by decide) (by decide) ?_
        rw [row_at, e9]
        refine y_iastn (j := 9) dX6_go_152 (by decide) rfl (by decide) (by decide) ?_
        refine x_iload_n dX6_go_153 rfl ?_
        exact y_ret dX6_go_154 rfl (rfl) (rfl) (hg _ (by simp [goS, *] <;> (intro q; exact absurd q (Int32.not_lt.mpr (by assumption)))))
      · refine x_aload_n dX6_go_133 rfl ?_
        refine y_getR fkX6_7 dX6_go_134 (by decide) rfl rfl ?_
        refine x_bipushv (v := 9) dX6_go_137 (by decide) ?_
        refine y_ialdn (j := 9) dX6_go_139 (by decide) rfl (by decide) (by decide) ?_
        rw [row_at, e9]
        refine x_iconstv (v := 1) dX6_go_140 (by decide) ?_
        refine x_isub dX6_go_141 ?_
        refine x_goto 152 dX6_go_142 (by decide) ?_
        refine y_iastn (j := 9) dX6_go_152 (by decide) rfl (by decide) (by decide) ?_
        refine x_iload_n dX6_go_153 rfl ?_
        exact y_ret dX6_go_154 rfl (rfl) (rfl) (hg _ (by simp [goS, *] <;> (intro q; exact absurd q (Int32.not_lt.mpr (by assumption)))))
    · refine x_bipushv (v := -4) dX6_go_117 (by decide) ?_
      refine x_goto 152 dX6_go_119 (by decide) ?_
      refine y_iastn (j := 9) dX6_go_152 (by decide) rfl (by decide) (by decide) ?_
      refine x_iload_n dX6_go_153 rfl ?_
      exact y_ret dX6_go_154 rfl (rfl) (rfl) (hg _ (by simp [goS, *] <;> (intro q; exact absurd q (Int32.not_lt.mpr (by assumption)))))
  have h2 := r_go_l2 (M := recM M K) (by omega) h1b h3 6 0 (by omega) (by omega)
  rw [go2_0] at h2
  have hl2 : Y 2 mX6_go 71 [some (.ref 84), some (.int (nI t)), some (.int (M 85 (26 + 5 * t))), some (.int (nI (22 + 5 * m)))] [] (setR (recM M K) 85 (go1 (upd (M 85) 1 (M 85 1 - 1)) t (5 * (m - t)))) (some (.int (M 85 (26 + 5 * t)))) (setR (recM M K) 85 (goV (M 85) t)) := by
    skip
    refine x_iconstv (v := 0) dX6_go_71 (by decide) ?_
    refine x_istore_n dX6_go_72 (by decide) rfl ?_
    exact h2
  have hl := r_go_l1 (M := recM M K) (by omega) (by omega) h1 hl2 (5 * (m - t)) 0 (by omega)
  rw [go1_0] at hl
  have hu : updM (recM M K) 85 1 (M 85 1 - 1) = setR (recM M K) 85 (upd (M 85) 1 (M 85 1 - 1)) := by rw [updM_row, e85]
  have hl3 : Y 3 mX6_go 37 [some (.ref 84), some (.int (nI t)), some (.int (M 85 (26 + 5 * t))), some (.int (nI (22 + 5 * t + 0)))] [] (setR (recM M K) 85 (upd (M 85) 1 (M 85 1 - 1))) (some (.int (M 85 (26 + 5 * t)))) (setR (recM M K) 85 (goV (M 85) t)) := hl.more (by omega)
  skip
  refine x_aload_n dX6_go_0 rfl ?_
  refine x_iload_n dX6_go_1 rfl ?_
  refine y_callV (as := [_]) okX6_isTrader lkX6_55 dX6_go_2 rfl (by decide) rfl ((hh.more (d' := 2) (by omega))) (by omega) rfl (by simp [Value.category]) (Nat.le_of_ble_eq_true rfl) rfl rfl (cat8 rfl) ?_
  refine x_if_ne 10 dX6_go_5 (by decide) (fun c_5 => ?_) (fun c_5 => ?_)
  · refine x_aload_n dX6_go_10 rfl ?_
    refine y_callV0 okX6_record lkX6_108 dX6_go_11 (by decide) rfl ((hrec.more (d' := 2) (by omega))) (by omega) (Nat.le_of_ble_eq_true rfl) rfl rfl (cat8 rfl) ?_
    refine x_aload_n dX6_go_14 rfl ?_
    refine x_iload_n dX6_go_15 rfl ?_
    refine x_iconstv (v := 4) dX6_go_16 (by decide) ?_
    refine y_callV (as := [_, _]) okX6_of lkX6_65 dX6_go_17 rfl (by decide) rfl ((ho.more (d' := 2) (by omega))) (by omega) rfl (by simp [Value.category]) (Nat.le_of_ble_eq_true rfl) rfl rfl (cat8 rfl) ?_
    refine x_istore_n dX6_go_20 (by decide) rfl ?_
    refine x_aload_n dX6_go_21 rfl ?_
    refine y_getR fkX6_7 dX6_go_22 (by decide) rfl rfl ?_
    refine x_iconstv (v := 1) dX6_go_25 (by decide) ?_
    refine x_dup2_ir dX6_go_26 ?_
    refine y_ialdn (j := 1) dX6_go_27 (by decide) rfl (by decide) (by decide) ?_
    rw [e85]
    refine x_iconstv (v := 1) dX6_go_28 (by decide) ?_
    refine x_isub dX6_go_29 ?_
    refine y_iastn (j := 1) dX6_go_30 (by decide) rfl (by decide) (by decide) ?_
    rw [hu]
    refine x_iload_n dX6_go_31 rfl ?_
    refine x_iconstv (v := 0) dX6_go_32 (by decide) ?_
    refine y_callS (as := [_, _]) okX6_at lkX6_59 dX6_go_33 rfl ((r_at0k.more (d' := 2) (by omega))) (by omega) rfl (by simp [Value.category]) (Nat.le_of_ble_eq_true rfl) (cat8 rfl) ?_
    refine x_istore_n dX6_go_36 (by decide) rfl ?_
    exact hl3
  · exact absurd c_5 (by decide)
theorem r_go0 {M : Mem} (hV : WF (M 85)) {t : Int32} (hx : hasB (M 85) t = false) : Y 3 mX6_go 0 (lent 4 [.ref 84, .int t]) [] M (some (.int (-1))) M := by
  have hh := r_isTrader hV (t := t)
  rw [hx] at hh
  skip
  refine x_aload_n dX6_go_0 rfl ?_
  refine x_iload_n dX6_go_1 rfl ?_
  refine y_callV (as := [_]) okX6_isTrader lkX6_55 dX6_go_2 rfl (by decide) rfl ((hh.more (d' := 2) (by omega))) (by omega) rfl (by simp [Value.category]) (Nat.le_of_ble_eq_true rfl) rfl rfl (cat8 rfl) ?_
  refine x_if_ne 10 dX6_go_5 (by decide) (fun c_5 => ?_) (fun c_5 => ?_)
  · exact absurd c_5 (by decide)
  · refine x_iconstv (v := -1) dX6_go_8 (by decide) ?_
    exact y_ret dX6_go_9 rfl (rfl) (rfl) (rfl)
