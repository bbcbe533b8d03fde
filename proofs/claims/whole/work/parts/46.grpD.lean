theorem r_in {M : Mem} {v a b : Int32} : Y 0 mX6_in 0 (lent 3 [.int v, .int a, .int b]) [] M (some (.int (b2i (decide (a ≤ v) && decide (v ≤ b))))) M := by
  refine x_iload_n dX6_in_0 rfl ?_
  refine x_iload_n dX6_in_1 rfl ?_
  refine x_icmp_lt 14 dX6_in_2 (by decide) (fun c_2 => ?_) (fun c_2 => ?_)
  · refine x_iconstv (v := 0) dX6_in_14 (by decide) ?_
    exact y_ret dX6_in_15 rfl (rfl) (by simp [b2i, *] <;> grind) (rfl)
  · refine x_iload_n dX6_in_5 rfl ?_
    refine x_iload_n dX6_in_6 rfl ?_
    refine x_icmp_gt 14 dX6_in_7 (by decide) (fun c_7 => ?_) (fun c_7 => ?_)
    · refine x_iconstv (v := 0) dX6_in_14 (by decide) ?_
      exact y_ret dX6_in_15 rfl (rfl) (by simp [b2i, *] <;> grind) (rfl)
    · refine x_iconstv (v := 1) dX6_in_10 (by decide) ?_
      refine x_goto 15 dX6_in_11 (by decide) ?_
      exact y_ret dX6_in_15 rfl (rfl) (by simp [b2i, *] <;> grind) (rfl)
theorem r_isKind {M : Mem} {k : Int32} : Y 1 mX6_isKind 0 (lent 1 [.int k]) [] M (some (.int (b2i (decide (0 ≤ k) && decide (k < 6))))) M := by
  refine x_iload_n dX6_isKind_0 rfl ?_
  refine x_iconstv (v := 0) dX6_isKind_1 (by decide) ?_
  refine x_iconstv (v := 5) dX6_isKind_2 (by decide) ?_
  refine y_callS (as := [_, _, _]) okX6_in lkX6_51 dX6_isKind_3 rfl (r_in) (by omega) rfl (by simp [Value.category]) (Nat.le_of_ble_eq_true rfl) (cat8 rfl) ?_
  exact y_ret dX6_isKind_6 rfl (b2i_nar _) (by congr 2; grind) (rfl)
theorem r_isTrader {M : Mem} (hV : WF (M 85)) {t : Int32} : Y 1 mX6_isTrader 0 (lent 2 [.ref 84, .int t]) [] M (some (.int (b2i (hasB (M 85) t)))) M := by
  obtain ⟨hn1, hn2⟩ := WF_n hV
  have h7 : M 85 1 ≤ 7 := by rw [hn2]; exact nI_le hn1 (by decide)
  have h0 : 0 ≤ M 85 1 := by rw [hn2]; exact nI_pos' (by omega)
  refine x_iload_n dX6_isTrader_0 rfl ?_
  refine x_iconstv (v := 0) dX6_isTrader_1 (by decide) ?_
  refine x_aload_n dX6_isTrader_2 rfl ?_
  refine y_getR fkX6_7 dX6_isTrader_3 (by decide) rfl rfl ?_
  refine x_iconstv (v := 1) dX6_isTrader_6 (by decide) ?_
  refine y_ialdn (j := 1) dX6_isTrader_7 (by decide) rfl (by decide) (by decide) ?_
  refine x_iconstv (v := 1) dX6_isTrader_8 (by decide) ?_
  refine x_isub dX6_isTrader_9 ?_
  refine y_callS (as := [_, _, _]) okX6_in lkX6_51 dX6_isTrader_10 rfl (r_in) (by omega) rfl (by simp [Value.category]) (Nat.le_of_ble_eq_true rfl) (cat8 rfl) ?_
  exact y_ret dX6_isTrader_13 rfl (b2i_nar _) (by unfold hasB; congr 2; grind) (rfl)
theorem r_arePair {M : Mem} (hV : WF (M 85)) {a b : Int32} : Y 2 mX6_arePair 0 (lent 3 [.ref 84, .int a, .int b]) [] M (some (.int (b2i (bothB (M 85) a b)))) M := by
  refine x_aload_n dX6_arePair_0 rfl ?_
  refine x_iload_n dX6_arePair_1 rfl ?_
  refine y_callV (as := [_]) okX6_isTrader lkX6_55 dX6_arePair_2 rfl (by decide) rfl (r_isTrader hV) (by omega) rfl (by simp [Value.category]) (Nat.le_of_ble_eq_true rfl) rfl rfl (cat8 rfl) ?_
  refine x_if_eq 25 dX6_arePair_5 (by decide) (fun c_5 => ?_) (fun c_5 => ?_)
  · refine x_iconstv (v := 0) dX6_arePair_25 (by decide) ?_
    exact y_ret dX6_arePair_26 rfl (rfl) (by simp_all [b2i_z, bothB, b2i]) (rfl)
  · refine x_aload_n dX6_arePair_8 rfl ?_
    refine x_iload_n dX6_arePair_9 rfl ?_
    refine y_callV (as := [_]) okX6_isTrader lkX6_55 dX6_arePair_10 rfl (by decide) rfl (r_isTrader hV) (by omega) rfl (by simp [Value.category]) (Nat.le_of_ble_eq_true rfl) rfl rfl (cat8 rfl) ?_
    refine x_if_eq 25 dX6_arePair_13 (by decide) (fun c_13 => ?_) (fun c_13 => ?_)
    · refine x_iconstv (v := 0) dX6_arePair_25 (by decide) ?_
      exact y_ret dX6_arePair_26 rfl (rfl) (by simp_all [b2i_z, bothB, b2i]) (rfl)
    · refine x_iload_n dX6_arePair_16 rfl ?_
      refine x_iload_n dX6_arePair_17 rfl ?_
      refine x_icmp_eq 25 dX6_arePair_18 (by decide) (fun c_18 => ?_) (fun c_18 => ?_)
      · refine x_iconstv (v := 0) dX6_arePair_25 (by decide) ?_
        exact y_ret dX6_arePair_26 rfl (rfl) (by simp_all [b2i_z, bothB, b2i]) (rfl)
      · refine x_iconstv (v := 1) dX6_arePair_21 (by decide) ?_
        refine x_goto 26 dX6_arePair_22 (by decide) ?_
        exact y_ret dX6_arePair_26 rfl (rfl) (by simp_all [b2i_z, bothB, b2i]) (rfl)
theorem r_ofKind0 {M : Mem} {k w : Int32} : Y 0 mX6_ofKind 0 (lent 2 [.int k, .int w]) [] M (some (.int (10 + 2 * k + w))) M := by
  refine x_bipushv (v := 10) dX6_ofKind_0 (by decide) ?_
  refine x_iconstv (v := 2) dX6_ofKind_2 (by decide) ?_
  refine x_iload_n dX6_ofKind_3 rfl ?_
  refine x_imul dX6_ofKind_4 ?_
  refine x_iadd dX6_ofKind_5 ?_
  refine x_iload_n dX6_ofKind_6 rfl ?_
  refine x_iadd dX6_ofKind_7 ?_
  exact y_ret dX6_ofKind_8 rfl (rfl) (rfl) (rfl)
theorem r_at0 {M : Mem} {k w : Int32} : Y 0 mX6_at 0 (lent 2 [.int k, .int w]) [] M (some (.int (22 + 5 * k + w))) M := by
  refine x_bipushv (v := 22) dX6_at_0 (by decide) ?_
  refine x_iconstv (v := 5) dX6_at_2 (by decide) ?_
  refine x_iload_n dX6_at_3 rfl ?_
  refine x_imul dX6_at_4 ?_
  refine x_iadd dX6_at_5 ?_
  refine x_iload_n dX6_at_6 rfl ?_
  refine x_iadd dX6_at_7 ?_
  exact y_ret dX6_at_8 rfl (rfl) (rfl) (rfl)
theorem at_nI {k w : Nat} : 22 + 5 * nI k + nI w = nI (22 + 5 * k + w) := by
  rw [show (22 : Int32) = nI 22 from rfl, show (5 : Int32) = nI 5 from rfl, pk_mul, nI_add, nI_add]
theorem ofk_nI {k w : Nat} : 10 + 2 * nI k + nI w = nI (10 + 2 * k + w) := by
  rw [show (10 : Int32) = nI 10 from rfl, show (2 : Int32) = nI 2 from rfl, pk_mul, nI_add, nI_add]
theorem r_at {M : Mem} {k w : Nat} : Y 0 mX6_at 0 (lent 2 [.int (nI k), .int (nI w)]) [] M (some (.int (nI (22 + 5 * k + w)))) M := by
  have h := r_at0 (M := M) (k := nI k) (w := nI w)
  rw [at_nI] at h
  exact h
theorem r_ofKind {M : Mem} {k w : Nat} : Y 0 mX6_ofKind 0 (lent 2 [.int (nI k), .int (nI w)]) [] M (some (.int (nI (10 + 2 * k + w)))) M := by
  have h := r_ofKind0 (M := M) (k := nI k) (w := nI w)
  rw [ofk_nI] at h
  exact h
theorem r_of {M : Mem} {k w : Nat} (h : 22 + 5 * k + w < 57) : Y 1 mX6_of 0 (lent 3 [.ref 84, .int (nI k), .int (nI w)]) [] M (some (.int (M 85 (22 + 5 * k + w)))) M := by
  refine x_aload_n dX6_of_0 rfl ?_
  refine y_getR fkX6_7 dX6_of_1 (by decide) rfl rfl ?_
  refine x_iload_n dX6_of_4 rfl ?_
  refine x_iload_n dX6_of_5 rfl ?_
  refine y_callS (as := [_, _]) okX6_at lkX6_59 dX6_of_6 rfl (r_at) (by omega) rfl (by simp [Value.category]) (Nat.le_of_ble_eq_true rfl) (cat8 rfl) ?_
  refine y_ialdn (j := 22 + 5 * k + w) dX6_of_9 (by decide) rfl (ixN (by omega)) (by omega) ?_
  exact y_ret dX6_of_10 rfl (rfl) (rfl) (rfl)
theorem r_of0 {M : Mem} {k : Nat} (h : k < 7) : Y 1 mX6_of 0 (lent 3 [.ref 84, .int (nI k), .int 0]) [] M (some (.int (M 85 (22 + 5 * k)))) M := by
  have h1 := r_of (M := M) (k := k) (w := 0) (by omega)
  rw [show 22 + 5 * k + 0 = 22 + 5 * k by omega] at h1
  exact h1
theorem r_of1 {M : Mem} {k : Nat} (h : k < 7) : Y 1 mX6_of 0 (lent 3 [.ref 84, .int (nI k), .int 1]) [] M (some (.int (M 85 (23 + 5 * k)))) M := by
  have h1 := r_of (M := M) (k := k) (w := 1) (by omega)
  rw [show 22 + 5 * k + 1 = 23 + 5 * k by omega] at h1
  exact h1
theorem r_of2 {M : Mem} {k : Nat} (h : k < 7) : Y 1 mX6_of 0 (lent 3 [.ref 84, .int (nI k), .int 2]) [] M (some (.int (M 85 (24 + 5 * k)))) M := by
  have h1 := r_of (M := M) (k := k) (w := 2) (by omega)
  rw [show 22 + 5 * k + 2 = 24 + 5 * k by omega] at h1
  exact h1
theorem r_of3 {M : Mem} {k : Nat} (h : k < 7) : Y 1 mX6_of 0 (lent 3 [.ref 84, .int (nI k), .int 3]) [] M (some (.int (M 85 (25 + 5 * k)))) M := by
  have h1 := r_of (M := M) (k := k) (w := 3) (by omega)
  rw [show 22 + 5 * k + 3 = 25 + 5 * k by omega] at h1
  exact h1
theorem r_of4 {M : Mem} {k : Nat} (h : k < 7) : Y 1 mX6_of 0 (lent 3 [.ref 84, .int (nI k), .int 4]) [] M (some (.int (M 85 (26 + 5 * k)))) M := by
  have h1 := r_of (M := M) (k := k) (w := 4) (by omega)
  rw [show 22 + 5 * k + 4 = 26 + 5 * k by omega] at h1
  exact h1
theorem b6 {V : Row} (hV : WF V) {j : Nat} (hj : j < nT V) : j < 7 := by
  have := (WF_n hV).1
  omega
theorem kd_nI {V : Row} (hV : WF V) {j : Nat} (hj : j < nT V) : V (24 + 5 * j) = nI (kd V j) := vpin_nI (hV.2.1 j hj).2.2.1
theorem kd_lt {V : Row} (hV : WF V) {j : Nat} (hj : j < nT V) : kd V j < 6 := vpin_lt (hV.2.1 j hj).2.2.1
theorem r_daysLeft {M : Mem} (hV : WF (M 85)) {j : Nat} (hj : j < nT (M 85)) : Y 2 mX6_daysLeft 0 (lent 3 [.ref 84, .int (nI j)]) [] M (some (.int (dl (M 85) j))) M := by
  have h6 := kd_lt hV hj
  refine x_aload_n dX6_daysLeft_0 rfl ?_
  refine y_getR fkX6_7 dX6_daysLeft_1 (by decide) rfl rfl ?_
  refine x_aload_n dX6_daysLeft_4 rfl ?_
  refine x_iload_n dX6_daysLeft_5 rfl ?_
  refine x_iconstv (v := 2) dX6_daysLeft_6 (by decide) ?_
  refine y_callV (as := [_, _]) okX6_of lkX6_65 dX6_daysLeft_7 rfl (by decide) rfl (r_of2 (b6 hV hj)) (by omega) rfl (by simp [Value.category]) (Nat.le_of_ble_eq_true rfl) rfl rfl (cat8 rfl) ?_
  rw [kd_nI hV hj]
  refine x_iconstv (v := 0) dX6_daysLeft_10 (by decide) ?_
  refine y_callS (as := [_, _]) okX6_ofKind lkX6_47 dX6_daysLeft_11 rfl (r_ofKind (k := kd (M 85) j) (w := 0)) (by omega) rfl (by simp [Value.category]) (Nat.le_of_ble_eq_true rfl) (cat8 rfl) ?_
  refine y_ialdn (j := 10 + 2 * kd (M 85) j) dX6_daysLeft_14 (by decide) rfl (ixN (by omega)) (by omega) ?_
  refine x_aload_n dX6_daysLeft_15 rfl ?_
  refine x_iload_n dX6_daysLeft_16 rfl ?_
  refine x_iconstv (v := 3) dX6_daysLeft_17 (by decide) ?_
  refine y_callV (as := [_, _]) okX6_of lkX6_65 dX6_daysLeft_18 rfl (by decide) rfl (r_of3 (b6 hV hj)) (by omega) rfl (by simp [Value.category]) (Nat.le_of_ble_eq_true rfl) rfl rfl (cat8 rfl) ?_
  refine x_isub dX6_daysLeft_21 ?_
  refine x_istore_n dX6_daysLeft_22 (by decide) rfl ?_
  refine x_iload_n dX6_daysLeft_23 rfl ?_
  refine x_if_le 31 dX6_daysLeft_24 (by decide) (fun c_24 => ?_) (fun c_24 => ?_)
  · refine x_iconstv (v := 0) dX6_daysLeft_31 (by decide) ?_
    exact y_ret dX6_daysLeft_32 rfl (rfl) (by unfold dl dli; grind) (rfl)
  · refine x_iload_n dX6_daysLeft_27 rfl ?_
    refine x_goto 32 dX6_daysLeft_28 (by decide) ?_
    exact y_ret dX6_daysLeft_32 rfl (rfl) (by unfold dl dli; grind) (rfl)
theorem r_wants {M : Mem} (hV : WF (M 85)) {t g : Nat} (ht : t < nT (M 85)) (hg : g < nT (M 85)) : Y 2 mX6_wants 0 (lent 3 [.ref 84, .int (nI t), .int (nI g)]) [] M (some (.int (b2i (decide (wb (M 85) t g = 1))))) M := by
  refine x_aload_n dX6_wants_0 rfl ?_
  refine x_iload_n dX6_wants_1 rfl ?_
  refine x_iconstv (v := 1) dX6_wants_2 (by decide) ?_
  refine y_callV (as := [_, _]) okX6_of lkX6_65 dX6_wants_3 rfl (by decide) rfl (r_of1 (b6 hV ht)) (by omega) rfl (by simp [Value.category]) (Nat.le_of_ble_eq_true rfl) rfl rfl (cat8 rfl) ?_
  refine x_aload_n dX6_wants_6 rfl ?_
  refine x_iload_n dX6_wants_7 rfl ?_
  refine x_iconstv (v := 2) dX6_wants_8 (by decide) ?_
  refine y_callV (as := [_, _]) okX6_of lkX6_65 dX6_wants_9 rfl (by decide) rfl (r_of2 (b6 hV hg)) (by omega) rfl (by simp [Value.category]) (Nat.le_of_ble_eq_true rfl) rfl rfl (cat8 rfl) ?_
  refine x_ishr dX6_wants_12 ?_
  refine x_iconstv (v := 1) dX6_wants_13 (by decide) ?_
  refine x_iand dX6_wants_14 ?_
  refine x_iconstv (v := 1) dX6_wants_15 (by decide) ?_
  refine x_icmp_ne 23 dX6_wants_16 (by decide) (fun c_16 => ?_) (fun c_16 => ?_)
  · refine x_iconstv (v := 0) dX6_wants_23 (by decide) ?_
    exact y_ret dX6_wants_24 rfl (rfl) (by simp_all [b2i, wb]) (rfl)
  · refine x_iconstv (v := 1) dX6_wants_19 (by decide) ?_
    refine x_goto 24 dX6_wants_20 (by decide) ?_
    exact y_ret dX6_wants_24 rfl (rfl) (by simp_all [b2i, wb]) (rfl)
theorem r_takes {M : Mem} (hV : WF (M 85)) {t g : Nat} (ht : t < nT (M 85)) (hg : g < nT (M 85)) : Y 3 mX6_takes 0 (lent 4 [.ref 84, .int (nI t), .int (nI g)]) [] M (some (.int (b2i (canV (M 85) t g)))) M := by
  have htg := nI_eq (n31 hV (Nat.le_of_lt ht)) (n31 hV (Nat.le_of_lt hg))
  refine x_aload_n dX6_takes_0 rfl ?_
  refine y_getR fkX6_7 dX6_takes_1 (by decide) rfl rfl ?_
  refine x_bipushv (v := 9) dX6_takes_4 (by decide) ?_
  refine y_ialdn (j := 9) dX6_takes_6 (by decide) rfl (by decide) (by decide) ?_
  refine x_iload_n dX6_takes_7 rfl ?_
  refine x_icmp_eq 26 dX6_takes_8 (by decide) (fun c_8 => ?_) (fun c_8 => ?_)
  · refine x_iconstv (v := 0) dX6_takes_26 (by decide) ?_
    refine x_istore_n dX6_takes_27 (by decide) rfl ?_
    refine x_iload_n dX6_takes_28 rfl ?_
    refine x_iload_n dX6_takes_29 rfl ?_
    refine x_icmp_eq 66 dX6_takes_30 (by decide) (fun c_30 => ?_) (fun c_30 => ?_)
    · refine x_iconstv (v := 0) dX6_takes_66 (by decide) ?_
      exact y_ret dX6_takes_67 rfl (rfl) (by first | (simp_all [b2i_z, b2i, canV, dl_pos]; done) | (simp_all [b2i_z, b2i, canV, dl_pos] <;> grind)) (rfl)
    · refine x_iload_n dX6_takes_33 rfl ?_
      refine x_if_eq 66 dX6_takes_34 (by decide) (fun c_34 => ?_) (fun c_34 => ?_)
      · refine x_iconstv (v := 0) dX6_takes_66 (by decide) ?_
        exact y_ret dX6_takes_67 rfl (rfl) (by first | (simp_all [b2i_z, b2i, canV, dl_pos]; done) | (simp_all [b2i_z, b2i, canV, dl_pos] <;> grind)) (rfl)
      · exact absurd c_34 (by decide)
  · refine x_aload_n dX6_takes_11 rfl ?_
    refine y_getR fkX6_7 dX6_takes_12 (by decide) rfl rfl ?_
    refine x_bipushv (v := 9) dX6_takes_15 (by decide) ?_
    refine y_ialdn (j := 9) dX6_takes_17 (by decide) rfl (by decide) (by decide) ?_
    refine x_iload_n dX6_takes_18 rfl ?_
    refine x_icmp_eq 26 dX6_takes_19 (by decide) (fun c_19 => ?_) (fun c_19 => ?_)
    · refine x_iconstv (v := 0) dX6_takes_26 (by decide) ?_
      refine x_istore_n dX6_takes_27 (by decide) rfl ?_
      refine x_iload_n dX6_takes_28 rfl ?_
      refine x_iload_n dX6_takes_29 rfl ?_
      refine x_icmp_eq 66 dX6_takes_30 (by decide) (fun c_30 => ?_) (fun c_30 => ?_)
      · refine x_iconstv (v := 0) dX6_takes_66 (by decide) ?_
        exact y_ret dX6_takes_67 rfl (rfl) (by first | (simp_all [b2i_z, b2i, canV, dl_pos]; done) | (simp_all [b2i_z, b2i, canV, dl_pos] <;> grind)) (rfl)
      · refine x_iload_n dX6_takes_33 rfl ?_
        refine x_if_eq 66 dX6_takes_34 (by decide) (fun c_34 => ?_) (fun c_34 => ?_)
        · refine x_iconstv (v := 0) dX6_takes_66 (by decide) ?_
          exact y_ret dX6_takes_67 rfl (rfl) (by first | (simp_all [b2i_z, b2i, canV, dl_pos]; done) | (simp_all [b2i_z, b2i, canV, dl_pos] <;> grind)) (rfl)
        · exact absurd c_34 (by decide)
    · refine x_iconstv (v := 1) dX6_takes_22 (by decide) ?_
      refine x_goto 27 dX6_takes_23 (by decide) ?_
      refine x_istore_n dX6_takes_27 (by decide) rfl ?_
      refine x_iload_n dX6_takes_28 rfl ?_
      refine x_iload_n dX6_takes_29 rfl ?_
      refine x_icmp_eq 66 dX6_takes_30 (by decide) (fun c_30 => ?_) (fun c_30 => ?_)
      · refine x_iconstv (v := 0) dX6_takes_66 (by decide) ?_
        exact y_ret dX6_takes_67 rfl (rfl) (by first | (simp_all [b2i_z, b2i, canV, dl_pos]; done) | (simp_all [b2i_z, b2i, canV, dl_pos] <;> grind)) (rfl)
      · refine x_iload_n dX6_takes_33 rfl ?_
        refine x_if_eq 66 dX6_takes_34 (by decide) (fun c_34 => ?_) (fun c_34 => ?_)
        · exact absurd c_34 (by decide)
        · refine x_aload_n dX6_takes_37 rfl ?_
          refine x_iload_n dX6_takes_38 rfl ?_
          refine y_callV (as := [_]) okX6_daysLeft lkX6_68 dX6_takes_39 rfl (by decide) rfl (r_daysLeft hV ht) (by omega) rfl (by simp [Value.category]) (Nat.le_of_ble_eq_true rfl) rfl rfl (cat8 rfl) ?_
          refine x_if_le 66 dX6_takes_42 (by decide) (fun c_42 => ?_) (fun c_42 => ?_)
          · refine x_iconstv (v := 0) dX6_takes_66 (by decide) ?_
            exact y_ret dX6_takes_67 rfl (rfl) (by first | (simp_all [b2i_z, b2i, canV, dl_pos]; done) | (simp_all [b2i_z, b2i, canV, dl_pos] <;> grind)) (rfl)
          · refine x_aload_n dX6_takes_45 rfl ?_
            refine x_iload_n dX6_takes_46 rfl ?_
            refine y_callV (as := [_]) okX6_daysLeft lkX6_68 dX6_takes_47 rfl (by decide) rfl (r_daysLeft hV hg) (by omega) rfl (by simp [Value.category]) (Nat.le_of_ble_eq_true rfl) rfl rfl (cat8 rfl) ?_
            refine x_if_le 66 dX6_takes_50 (by decide) (fun c_50 => ?_) (fun c_50 => ?_)
            · refine x_iconstv (v := 0) dX6_takes_66 (by decide) ?_
              exact y_ret dX6_takes_67 rfl (rfl) (by first | (simp_all [b2i_z, b2i, canV, dl_pos]; done) | (simp_all [b2i_z, b2i, canV, dl_pos] <;> grind)) (rfl)
            · refine x_aload_n dX6_takes_53 rfl ?_
              refine x_iload_n dX6_takes_54 rfl ?_
              refine x_iload_n dX6_takes_55 rfl ?_
              refine y_callV (as := [_, _]) okX6_wants lkX6_72 dX6_takes_56 rfl (by decide) rfl (r_wants hV ht hg) (by omega) rfl (by simp [Value.category]) (Nat.le_of_ble_eq_true rfl) rfl rfl (cat8 rfl) ?_
              refine x_if_eq 66 dX6_takes_59 (by decide) (fun c_59 => ?_) (fun c_59 => ?_)
              · refine x_iconstv (v := 0) dX6_takes_66 (by decide) ?_
                exact y_ret dX6_takes_67 rfl (rfl) (by first | (simp_all [b2i_z, b2i, canV, dl_pos]; done) | (simp_all [b2i_z, b2i, canV, dl_pos] <;> grind)) (rfl)
              · refine x_iconstv (v := 1) dX6_takes_62 (by decide) ?_
                refine x_goto 67 dX6_takes_63 (by decide) ?_
                exact y_ret dX6_takes_67 rfl (rfl) (by first | (simp_all [b2i_z, b2i, canV, dl_pos]; done) | (simp_all [b2i_z, b2i, canV, dl_pos] <;> grind)) (rfl)
theorem dl_z {V : Row} {j : Nat} : dl V j = 0 ↔ ¬ 0 < dli V j := by
  unfold dl
  split
  · constructor
    · intro h; rw [h] at *; simp_all
    · intro h; contradiction
  · simp [*]
theorem r_reason {M : Mem} (hV : WF (M 85)) {a b : Nat} (ha : a < nT (M 85)) (hb : b < nT (M 85)) : Y 3 mX6_reason 0 (lent 3 [.ref 84, .int (nI a), .int (nI b)]) [] M (some (.int (rsn (M 85) a b))) M := by
  refine x_aload_n dX6_reason_0 rfl ?_
  refine y_getR fkX6_7 dX6_reason_1 (by decide) rfl rfl ?_
  refine x_bipushv (v := 9) dX6_reason_4 (by decide) ?_
  refine y_ialdn (j := 9) dX6_reason_6 (by decide) rfl (by decide) (by decide) ?_
  refine x_iload_n dX6_reason_7 rfl ?_
  refine x_icmp_eq 22 dX6_reason_8 (by decide) (fun c_8 => ?_) (fun c_8 => ?_)
  · refine x_iconstv (v := 1) dX6_reason_22 (by decide) ?_
    exact y_ret dX6_reason_23 rfl (rfl) (by simp_all [b2i_z, b2i, rsn, dl_z]) (rfl)
  · refine x_aload_n dX6_reason_11 rfl ?_
    refine y_getR fkX6_7 dX6_reason_12 (by decide) rfl rfl ?_
    refine x_bipushv (v := 9) dX6_reason_15 (by decide) ?_
    refine y_ialdn (j := 9) dX6_reason_17 (by decide) rfl (by decide) (by decide) ?_
    refine x_iload_n dX6_reason_18 rfl ?_
    refine x_icmp_ne 24 dX6_reason_19 (by decide) (fun c_19 => ?_) (fun c_19 => ?_)
    · refine x_aload_n dX6_reason_24 rfl ?_
      refine x_iload_n dX6_reason_25 rfl ?_
      refine y_callV (as := [_]) okX6_daysLeft lkX6_68 dX6_reason_26 rfl (by decide) rfl (r_daysLeft hV ha) (by omega) rfl (by simp [Value.category]) (Nat.le_of_ble_eq_true rfl) rfl rfl (cat8 rfl) ?_
      refine x_if_eq 40 dX6_reason_29 (by decide) (fun c_29 => ?_) (fun c_29 => ?_)
      · refine x_iconstv (v := 2) dX6_reason_40 (by decide) ?_
        exact y_ret dX6_reason_41 rfl (rfl) (by simp_all [b2i_z, b2i, rsn, dl_z]) (rfl)
      · refine x_aload_n dX6_reason_32 rfl ?_
        refine x_iload_n dX6_reason_33 rfl ?_
        refine y_callV (as := [_]) okX6_daysLeft lkX6_68 dX6_reason_34 rfl (by decide) rfl (r_daysLeft hV hb) (by omega) rfl (by simp [Value.category]) (Nat.le_of_ble_eq_true rfl) rfl rfl (cat8 rfl) ?_
        refine x_if_ne 42 dX6_reason_37 (by decide) (fun c_37 => ?_) (fun c_37 => ?_)
        · refine x_aload_n dX6_reason_42 rfl ?_
          refine x_iload_n dX6_reason_43 rfl ?_
          refine x_iload_n dX6_reason_44 rfl ?_
          refine y_callV (as := [_, _]) okX6_wants lkX6_72 dX6_reason_45 rfl (by decide) rfl (r_wants hV ha hb) (by omega) rfl (by simp [Value.category]) (Nat.le_of_ble_eq_true rfl) rfl rfl (cat8 rfl) ?_
          refine x_if_ne 55 dX6_reason_48 (by decide) (fun c_48 => ?_) (fun c_48 => ?_)
          · refine x_aload_n dX6_reason_55 rfl ?_
            refine x_iload_n dX6_reason_56 rfl ?_
            refine x_iload_n dX6_reason_57 rfl ?_
            refine y_callV (as := [_, _]) okX6_wants lkX6_72 dX6_reason_58 rfl (by decide) rfl (r_wants hV hb ha) (by omega) rfl (by simp [Value.category]) (Nat.le_of_ble_eq_true rfl) rfl rfl (cat8 rfl) ?_
            refine x_if_ne 68 dX6_reason_61 (by decide) (fun c_61 => ?_) (fun c_61 => ?_)
            · refine x_iconstv (v := 0) dX6_reason_68 (by decide) ?_
              exact y_ret dX6_reason_69 rfl (rfl) (by simp_all [b2i_z, b2i, rsn, dl_z]) (rfl)
            · refine x_iconstv (v := 4) dX6_reason_64 (by decide) ?_
              refine x_goto 69 dX6_reason_65 (by decide) ?_
              exact y_ret dX6_reason_69 rfl (rfl) (by simp_all [b2i_z, b2i, rsn, dl_z]) (rfl)
          · refine x_iconstv (v := 3) dX6_reason_51 (by decide) ?_
            refine x_goto 69 dX6_reason_52 (by decide) ?_
            exact y_ret dX6_reason_69 rfl (rfl) (by simp_all [b2i_z, b2i, rsn, dl_z]) (rfl)
        · refine x_iconstv (v := 2) dX6_reason_40 (by decide) ?_
          exact y_ret dX6_reason_41 rfl (rfl) (by simp_all [b2i_z, b2i, rsn, dl_z]) (rfl)
    · refine x_iconstv (v := 1) dX6_reason_22 (by decide) ?_
      exact y_ret dX6_reason_23 rfl (rfl) (by simp_all [b2i_z, b2i, rsn, dl_z]) (rfl)
theorem r_takesFrom_loop {M : Mem} (hV : WF (M 85)) {t : Nat} (ht : t < nT (M 85)) : ∀ (fu i : Nat) (acc x : Int32), i ≤ nT (M 85) → nT (M 85) - i < fu → x = nI i → acc = sumF (fun g => b2i (canV (M 85) t g)) i → Y 4 mX6_takesFrom 4 [some (.ref 84), some (.int (nI t)), some (.int acc), some (.int x)] [] M (some (.int (sumF (fun g => b2i (canV (M 85) t g)) (nT (M 85))))) M := by
  obtain ⟨hn1, hn2⟩ := WF_n hV
  intro fu
  induction fu with
  | zero => intro i acc x h1 h2; omega
  | succ fu ih =>
    intro i acc x h1 h2 hx ha9
    subst hx
    refine x_iload_n dX6_takesFrom_4 rfl ?_
    refine x_aload_n dX6_takesFrom_5 rfl ?_
    refine y_getR fkX6_7 dX6_takesFrom_6 (by decide) rfl rfl ?_
    refine x_iconstv (v := 1) dX6_takesFrom_9 (by decide) ?_
    refine y_ialdn (j := 1) dX6_takesFrom_10 (by decide) rfl (by decide) (by decide) ?_
    refine x_icmp_ge 37 dX6_takesFrom_11 (by decide) (fun c_11 => ?_) (fun c_11 => ?_)
    · have he := lp_eq hV rfl h1 c_11
      subst he
      refine x_iload_n dX6_takesFrom_37 rfl ?_
      exact y_ret dX6_takesFrom_38 rfl (rfl) (ha9) (rfl)
    · have hlt := lp_lt hV rfl h1 c_11
      refine x_iload_n dX6_takesFrom_14 rfl ?_
      refine x_aload_n dX6_takesFrom_15 rfl ?_
      refine x_iload_n dX6_takesFrom_16 rfl ?_
      refine x_iload_n dX6_takesFrom_17 rfl ?_
      refine y_callV (as := [_, _]) okX6_takes lkX6_79 dX6_takesFrom_18 rfl (by decide) rfl (r_takes hV ht hlt) (by omega) rfl (by simp [Value.category]) (Nat.le_of_ble_eq_true rfl) rfl rfl (cat8 rfl) ?_
      refine x_if_eq 28 dX6_takesFrom_21 (by decide) (fun c_21 => ?_) (fun c_21 => ?_)
      · refine x_iconstv (v := 0) dX6_takesFrom_28 (by decide) ?_
        refine x_iadd dX6_takesFrom_29 ?_
        refine x_istore_n dX6_takesFrom_30 (by decide) rfl ?_
        refine x_iincv (v := 1) dX6_takesFrom_31 rfl (by decide) rfl (by decide) ?_
        refine x_goto 4 dX6_takesFrom_34 (by decide) ?_
        exact ih (i + 1) _ _ (by omega) (by omega) (by rw [nI_1]) (by first | (simp_all [sumF, ind, b2i_z, b2i, dl_z]; done) | (simp_all [sumF, ind, b2i_z, b2i, dl_z] <;> grind))
      · refine x_iconstv (v := 1) dX6_takesFrom_24 (by decide) ?_
        refine x_goto 29 dX6_takesFrom_25 (by decide) ?_
        refine x_iadd dX6_takesFrom_29 ?_
        refine x_istore_n dX6_takesFrom_30 (by decide) rfl ?_
        refine x_iincv (v := 1) dX6_takesFrom_31 rfl (by decide) rfl (by decide) ?_
        refine x_goto 4 dX6_takesFrom_34 (by decide) ?_
        exact ih (i + 1) _ _ (by omega) (by omega) (by rw [nI_1]) (by first | (simp_all [sumF, ind, b2i_z, b2i, dl_z]; done) | (simp_all [sumF, ind, b2i_z, b2i, dl_z] <;> grind))
theorem r_takesFrom {M : Mem} (hV : WF (M 85)) {t : Nat} (ht : t < nT (M 85)) : Y 4 mX6_takesFrom 0 (lent 4 [.ref 84, .int (nI t)]) [] M (some (.int (sumF (fun g => b2i (canV (M 85) t g)) (nT (M 85))))) M := by
  refine x_iconstv (v := 0) dX6_takesFrom_0 (by decide) ?_
  refine x_istore_n dX6_takesFrom_1 (by decide) rfl ?_
  refine x_iconstv (v := 0) dX6_takesFrom_2 (by decide) ?_
  refine x_istore_n dX6_takesFrom_3 (by decide) rfl ?_
  exact r_takesFrom_loop hV ht (nT (M 85) + 1) 0 0 0 (Nat.zero_le _) (by omega) rfl rfl
theorem r_givesTo_loop {M : Mem} (hV : WF (M 85)) {g : Nat} (hg : g < nT (M 85)) : ∀ (fu i : Nat) (acc x : Int32), i ≤ nT (M 85) → nT (M 85) - i < fu → x = nI i → acc = sumF (fun t => b2i (canV (M 85) t g)) i → Y 4 mX6_givesTo 4 [some (.ref 84), some (.int (nI g)), some (.int acc), some (.int x)] [] M (some (.int (sumF (fun t => b2i (canV (M 85) t g)) (nT (M 85))))) M := by
  obtain ⟨hn1, hn2⟩ := WF_n hV
  intro fu
  induction fu with
  | zero => intro i acc x h1 h2; omega
  | succ fu ih =>
    intro i acc x h1 h2 hx ha9
    subst hx
    refine x_iload_n dX6_givesTo_4 rfl ?_
    refine x_aload_n dX6_givesTo_5 rfl ?_
    refine y_getR fkX6_7 dX6_givesTo_6 (by decide) rfl rfl ?_
    refine x_iconstv (v := 1) dX6_givesTo_9 (by decide) ?_
    refine y_ialdn (j := 1) dX6_givesTo_10 (by decide) rfl (by decide) (by decide) ?_
    refine x_icmp_ge 37 dX6_givesTo_11 (by decide) (fun c_11 => ?_) (fun c_11 => ?_)
    · have he := lp_eq hV rfl h1 c_11
      subst he
      refine x_iload_n dX6_givesTo_37 rfl ?_
      exact y_ret dX6_givesTo_38 rfl (rfl) (ha9) (rfl)
    · have hlt := lp_lt hV rfl h1 c_11
      refine x_iload_n dX6_givesTo_14 rfl ?_
      refine x_aload_n dX6_givesTo_15 rfl ?_
      refine x_iload_n dX6_givesTo_16 rfl ?_
      refine x_iload_n dX6_givesTo_17 rfl ?_
      refine y_callV (as := [_, _]) okX6_takes lkX6_79 dX6_givesTo_18 rfl (by decide) rfl (r_takes hV hlt hg) (by omega) rfl (by simp [Value.category]) (Nat.le_of_ble_eq_true rfl) rfl rfl (cat8 rfl) ?_
      refine x_if_eq 28 dX6_givesTo_21 (by decide) (fun c_21 => ?_) (fun c_21 => ?_)
      · refine x_iconstv (v := 0) dX6_givesTo_28 (by decide) ?_
        refine x_iadd dX6_givesTo_29 ?_
        refine x_istore_n dX6_givesTo_30 (by decide) rfl ?_
        refine x_iincv (v := 1) dX6_givesTo_31 rfl (by decide) rfl (by decide) ?_
        refine x_goto 4 dX6_givesTo_34 (by decide) ?_
        exact ih (i + 1) _ _ (by omega) (by omega) (by rw [nI_1]) (by first | (simp_all [sumF, ind, b2i_z, b2i, dl_z]; done) | (simp_all [sumF, ind, b2i_z, b2i, dl_z] <;> grind))
      · refine x_iconstv (v := 1) dX6_givesTo_24 (by decide) ?_
        refine x_goto 29 dX6_givesTo_25 (by decide) ?_
        refine x_iadd dX6_givesTo_29 ?_
        refine x_istore_n dX6_givesTo_30 (by decide) rfl ?_
        refine x_iincv (v := 1) dX6_givesTo_31 rfl (by decide) rfl (by decide) ?_
        refine x_goto 4 dX6_givesTo_34 (by decide) ?_
        exact ih (i + 1) _ _ (by omega) (by omega) (by rw [nI_1]) (by first | (simp_all [sumF, ind, b2i_z, b2i, dl_z]; done) | (simp_all [sumF, ind, b2i_z, b2i, dl_z] <;> grind))
theorem r_givesTo {M : Mem} (hV : WF (M 85)) {g : Nat} (hg : g < nT (M 85)) : Y 4 mX6_givesTo 0 (lent 4 [.ref 84, .int (nI g)]) [] M (some (.int (sumF (fun t => b2i (canV (M 85) t g)) (nT (M 85))))) M := by
  refine x_iconstv (v := 0) dX6_givesTo_0 (by decide) ?_
  refine x_istore_n dX6_givesTo_1 (by decide) rfl ?_
  refine x_iconstv (v := 0) dX6_givesTo_2 (by decide) ?_
  refine x_istore_n dX6_givesTo_3 (by decide) rfl ?_
  exact r_givesTo_loop hV hg (nT (M 85) + 1) 0 0 0 (Nat.zero_le _) (by omega) rfl rfl
theorem r_spoilt_loop {M : Mem} (hV : WF (M 85))  : ∀ (fu i : Nat) (acc x : Int32), i ≤ nT (M 85) → nT (M 85) - i < fu → x = nI i → acc = sumF (fun t => ind (¬ 0 < dli (M 85) t)) i → Y 3 mX6_spoilt 4 [some (.ref 84), some (.int acc), some (.int x)] [] M (some (.int (spoiltV (M 85)))) M := by
  obtain ⟨hn1, hn2⟩ := WF_n hV
  intro fu
  induction fu with
  | zero => intro i acc x h1 h2; omega
  | succ fu ih =>
    intro i acc x h1 h2 hx ha9
    subst hx
    refine x_iload_n dX6_spoilt_4 rfl ?_
    refine x_aload_n dX6_spoilt_5 rfl ?_
    refine y_getR fkX6_7 dX6_spoilt_6 (by decide) rfl rfl ?_
    refine x_iconstv (v := 1) dX6_spoilt_9 (by decide) ?_
    refine y_ialdn (j := 1) dX6_spoilt_10 (by decide) rfl (by decide) (by decide) ?_
    refine x_icmp_ge 36 dX6_spoilt_11 (by decide) (fun c_11 => ?_) (fun c_11 => ?_)
    · have he := lp_eq hV rfl h1 c_11
      subst he
      refine x_iload_n dX6_spoilt_36 rfl ?_
      exact y_ret dX6_spoilt_37 rfl (rfl) (ha9) (rfl)
    · have hlt := lp_lt hV rfl h1 c_11
      refine x_iload_n dX6_spoilt_14 rfl ?_
      refine x_aload_n dX6_spoilt_15 rfl ?_
      refine x_iload_n dX6_spoilt_16 rfl ?_
      refine y_callV (as := [_]) okX6_daysLeft lkX6_68 dX6_spoilt_17 rfl (by decide) rfl (r_daysLeft hV hlt) (by omega) rfl (by simp [Value.category]) (Nat.le_of_ble_eq_true rfl) rfl rfl (cat8 rfl) ?_
      refine x_if_ne 27 dX6_spoilt_20 (by decide) (fun c_20 => ?_) (fun c_20 => ?_)
      · refine x_iconstv (v := 0) dX6_spoilt_27 (by decide) ?_
        refine x_iadd dX6_spoilt_28 ?_
        refine x_istore_n dX6_spoilt_29 (by decide) rfl ?_
        refine x_iincv (v := 1) dX6_spoilt_30 rfl (by decide) rfl (by decide) ?_
        refine x_goto 4 dX6_spoilt_33 (by decide) ?_
        exact ih (i + 1) _ _ (by omega) (by omega) (by rw [nI_1]) (by first | (simp_all [sumF, ind, b2i_z, b2i, dl_z]; done) | (simp_all [sumF, ind, b2i_z, b2i, dl_z] <;> grind))
      · refine x_iconstv (v := 1) dX6_spoilt_23 (by decide) ?_
        refine x_goto 28 dX6_spoilt_24 (by decide) ?_
        refine x_iadd dX6_spoilt_28 ?_
        refine x_istore_n dX6_spoilt_29 (by decide) rfl ?_
        refine x_iincv (v := 1) dX6_spoilt_30 rfl (by decide) rfl (by decide) ?_
        refine x_goto 4 dX6_spoilt_33 (by decide) ?_
        exact ih (i + 1) _ _ (by omega) (by omega) (by rw [nI_1]) (by first | (simp_all [sumF, ind, b2i_z, b2i, dl_z]; done) | (simp_all [sumF, ind, b2i_z, b2i, dl_z] <;> grind))
theorem r_spoilt {M : Mem} (hV : WF (M 85))  : Y 3 mX6_spoilt 0 (lent 3 [.ref 84]) [] M (some (.int (spoiltV (M 85)))) M := by
  refine x_iconstv (v := 0) dX6_spoilt_0 (by decide) ?_
  refine x_istore_n dX6_spoilt_1 (by decide) rfl ?_
  refine x_iconstv (v := 0) dX6_spoilt_2 (by decide) ?_
  refine x_istore_n dX6_spoilt_3 (by decide) rfl ?_
  exact r_spoilt_loop hV (nT (M 85) + 1) 0 0 0 (Nat.zero_le _) (by omega) rfl rfl
theorem r_bits_loop {M : Mem} {s : Int32} : ∀ (fu i : Nat) (acc x : Int32), i ≤ 7 → 7 - i < fu → x = nI i → acc = sumF (fun k => s >>> (nI k &&& 31) &&& 1) i → Y 0 mX6_bits 4 [some (.int s), some (.int acc), some (.int x)] [] M (some (.int (bits7 s))) M := by
  have h6 : ∀ i : Nat, i ≤ 7 → (7 : Int32) ≤ nI i → i = 7 := by
    intro i h1 h2
    have := (nI_leI (a := 7) (b := i) (by decide) (by omega)).mp h2
    omega
  have h6l : ∀ i : Nat, i ≤ 7 → ¬ (7 : Int32) ≤ nI i → i < 7 := by
    intro i h1 h2
    rcases Nat.lt_or_ge i 7 with q | q
    · exact q
    · exact absurd (nI_le (a := 7) (b := i) q (by omega)) h2
  intro fu
  induction fu with
  | zero => intro i acc x h1 h2; omega
  | succ fu ih =>
    intro i acc x h1 h2 hx ha9
    subst hx
    refine x_iload_n dX6_bits_4 rfl ?_
    refine x_bipushv (v := 7) dX6_bits_5 (by decide) ?_
    refine x_icmp_ge 24 dX6_bits_7 (by decide) (fun c_7 => ?_) (fun c_7 => ?_)
    · have he := h6 i h1 c_7
      subst he
      refine x_iload_n dX6_bits_24 rfl ?_
      exact y_ret dX6_bits_25 rfl (rfl) (ha9) (rfl)
    · have hlt := h6l i h1 c_7
      refine x_iload_n dX6_bits_10 rfl ?_
      refine x_iload_n dX6_bits_11 rfl ?_
      refine x_iload_n dX6_bits_12 rfl ?_
      refine x_ishr dX6_bits_13 ?_
      refine x_iconstv (v := 1) dX6_bits_14 (by decide) ?_
      refine x_iand dX6_bits_15 ?_
      refine x_iadd dX6_bits_16 ?_
      refine x_istore_n dX6_bits_17 (by decide) rfl ?_
      refine x_iincv (v := 1) dX6_bits_18 rfl (by decide) rfl (by decide) ?_
      refine x_goto 4 dX6_bits_21 (by decide) ?_
      exact ih (i + 1) _ _ (by omega) (by omega) (by rw [nI_1]) (by simp_all [sumF])
theorem r_bits {M : Mem} {s : Int32} : Y 0 mX6_bits 0 (lent 3 [.int s]) [] M (some (.int (bits7 s))) M := by
  refine x_iconstv (v := 0) dX6_bits_0 (by decide) ?_
  refine x_istore_n dX6_bits_1 (by decide) rfl ?_
  refine x_iconstv (v := 0) dX6_bits_2 (by decide) ?_
  refine x_istore_n dX6_bits_3 (by decide) rfl ?_
  exact r_bits_loop 8 0 0 0 (by omega) (by omega) rfl rfl
theorem r_needs_loop {M : Mem} (hV : WF (M 85))  : ∀ (fu i : Nat) (acc x : Int32), i ≤ nT (M 85) → nT (M 85) - i < fu → x = nI i → acc = sumF (fun t => bits7 (M 85 (23 + 5 * t))) i → Y 2 mX6_needs 4 [some (.ref 84), some (.int acc), some (.int x)] [] M (some (.int (needsV (M 85)))) M := by
  obtain ⟨hn1, hn2⟩ := WF_n hV
  intro fu
  induction fu with
  | zero => intro i acc x h1 h2; omega
  | succ fu ih =>
    intro i acc x h1 h2 hx ha9
    subst hx
    refine x_iload_n dX6_needs_4 rfl ?_
    refine x_aload_n dX6_needs_5 rfl ?_
    refine y_getR fkX6_7 dX6_needs_6 (by decide) rfl rfl ?_
    refine x_iconstv (v := 1) dX6_needs_9 (by decide) ?_
    refine y_ialdn (j := 1) dX6_needs_10 (by decide) rfl (by decide) (by decide) ?_
    refine x_icmp_ge 32 dX6_needs_11 (by decide) (fun c_11 => ?_) (fun c_11 => ?_)
    · have he := lp_eq hV rfl h1 c_11
      subst he
      refine x_iload_n dX6_needs_32 rfl ?_
      exact y_ret dX6_needs_33 rfl (rfl) (ha9) (rfl)
    · have hlt := lp_lt hV rfl h1 c_11
      refine x_iload_n dX6_needs_14 rfl ?_
      refine x_aload_n dX6_needs_15 rfl ?_
      refine x_iload_n dX6_needs_16 rfl ?_
      refine x_iconstv (v := 1) dX6_needs_17 (by decide) ?_
      refine y_callV (as := [_, _]) okX6_of lkX6_65 dX6_needs_18 rfl (by decide) rfl (r_of1 (b6 hV hlt)) (by omega) rfl (by simp [Value.category]) (Nat.le_of_ble_eq_true rfl) rfl rfl (cat8 rfl) ?_
      refine y_callS (as := [_]) okX6_bits lkX6_166 dX6_needs_21 rfl (r_bits) (by omega) rfl (by simp [Value.category]) (Nat.le_of_ble_eq_true rfl) (cat8 rfl) ?_
      refine x_iadd dX6_needs_24 ?_
      refine x_istore_n dX6_needs_25 (by decide) rfl ?_
      refine x_iincv (v := 1) dX6_needs_26 rfl (by decide) rfl (by decide) ?_
      refine x_goto 4 dX6_needs_29 (by decide) ?_
      exact ih (i + 1) _ _ (by omega) (by omega) (by rw [nI_1]) (by first | (simp_all [sumF, ind, b2i_z, b2i, dl_z]; done) | (simp_all [sumF, ind, b2i_z, b2i, dl_z] <;> grind))
theorem r_needs {M : Mem} (hV : WF (M 85))  : Y 2 mX6_needs 0 (lent 3 [.ref 84]) [] M (some (.int (needsV (M 85)))) M := by
  refine x_iconstv (v := 0) dX6_needs_0 (by decide) ?_
  refine x_istore_n dX6_needs_1 (by decide) rfl ?_
  refine x_iconstv (v := 0) dX6_needs_2 (by decide) ?_
  refine x_istore_n dX6_needs_3 (by decide) rfl ?_
  exact r_needs_loop hV (nT (M 85) + 1) 0 0 0 (Nat.zero_le _) (by omega) rfl rfl
theorem r_stuck_loop {M : Mem} (hV : WF (M 85))  : ∀ (fu i : Nat) (acc x : Int32), i ≤ nT (M 85) → nT (M 85) - i < fu → x = nI i → acc = sumF (fun t => ind (0 < M 85 (23 + 5 * t) ∧ sumF (fun g => b2i (canV (M 85) t g)) (nT (M 85)) = 0)) i → Y 5 mX6_stuck 4 [some (.ref 84), some (.int acc), some (.int x)] [] M (some (.int (sumF (fun t => ind (0 < M 85 (23 + 5 * t) ∧ sumF (fun g => b2i (canV (M 85) t g)) (nT (M 85)) = 0)) (nT (M 85))))) M := by
  obtain ⟨hn1, hn2⟩ := WF_n hV
  intro fu
  induction fu with
  | zero => intro i acc x h1 h2; omega
  | succ fu ih =>
    intro i acc x h1 h2 hx ha9
    subst hx
    refine x_iload_n dX6_stuck_4 rfl ?_
    refine x_aload_n dX6_stuck_5 rfl ?_
    refine y_getR fkX6_7 dX6_stuck_6 (by decide) rfl rfl ?_
    refine x_iconstv (v := 1) dX6_stuck_9 (by decide) ?_
    refine y_ialdn (j := 1) dX6_stuck_10 (by decide) rfl (by decide) (by decide) ?_
    refine x_icmp_ge 45 dX6_stuck_11 (by decide) (fun c_11 => ?_) (fun c_11 => ?_)
    · have he := lp_eq hV rfl h1 c_11
      subst he
      refine x_iload_n dX6_stuck_45 rfl ?_
      exact y_ret dX6_stuck_46 rfl (rfl) (ha9) (rfl)
    · have hlt := lp_lt hV rfl h1 c_11
      refine x_iload_n dX6_stuck_14 rfl ?_
      refine x_aload_n dX6_stuck_15 rfl ?_
      refine x_iload_n dX6_stuck_16 rfl ?_
      refine x_iconstv (v := 1) dX6_stuck_17 (by decide) ?_
      refine y_callV (as := [_, _]) okX6_of lkX6_65 dX6_stuck_18 rfl (by decide) rfl (r_of1 (b6 hV hlt)) (by omega) rfl (by simp [Value.category]) (Nat.le_of_ble_eq_true rfl) rfl rfl (cat8 rfl) ?_
      refine x_if_le 36 dX6_stuck_21 (by decide) (fun c_21 => ?_) (fun c_21 => ?_)
      · refine x_iconstv (v := 0) dX6_stuck_36 (by decide) ?_
        refine x_iadd dX6_stuck_37 ?_
        refine x_istore_n dX6_stuck_38 (by decide) rfl ?_
        refine x_iincv (v := 1) dX6_stuck_39 rfl (by decide) rfl (by decide) ?_
        refine x_goto 4 dX6_stuck_42 (by decide) ?_
        exact ih (i + 1) _ _ (by omega) (by omega) (by rw [nI_1]) (by first | (simp_all [sumF, ind, b2i_z, b2i, dl_z]; done) | (simp_all [sumF, ind, b2i_z, b2i, dl_z] <;> grind))
      · refine x_aload_n dX6_stuck_24 rfl ?_
        refine x_iload_n dX6_stuck_25 rfl ?_
        refine y_callV (as := [_]) okX6_takesFrom lkX6_151 dX6_stuck_26 rfl (by decide) rfl (r_takesFrom hV hlt) (by omega) rfl (by simp [Value.category]) (Nat.le_of_ble_eq_true rfl) rfl rfl (cat8 rfl) ?_
        refine x_if_ne 36 dX6_stuck_29 (by decide) (fun c_29 => ?_) (fun c_29 => ?_)
        · refine x_iconstv (v := 0) dX6_stuck_36 (by decide) ?_
          refine x_iadd dX6_stuck_37 ?_
          refine x_istore_n dX6_stuck_38 (by decide) rfl ?_
          refine x_iincv (v := 1) dX6_stuck_39 rfl (by decide) rfl (by decide) ?_
          refine x_goto 4 dX6_stuck_42 (by decide) ?_
          exact ih (i + 1) _ _ (by omega) (by omega) (by rw [nI_1]) (by first | (simp_all [sumF, ind, b2i_z, b2i, dl_z]; done) | (simp_all [sumF, ind, b2i_z, b2i, dl_z] <;> grind))
        · refine x_iconstv (v := 1) dX6_stuck_32 (by decide) ?_
          refine x_goto 37 dX6_stuck_33 (by decide) ?_
          refine x_iadd dX6_stuck_37 ?_
          refine x_istore_n dX6_stuck_38 (by decide) rfl ?_
          refine x_iincv (v := 1) dX6_stuck_39 rfl (by decide) rfl (by decide) ?_
          refine x_goto 4 dX6_stuck_42 (by decide) ?_
          exact ih (i + 1) _ _ (by omega) (by omega) (by rw [nI_1]) (by first | (simp_all [sumF, ind, b2i_z, b2i, dl_z]; done) | (simp_all [sumF, ind, b2i_z, b2i, dl_z] <;> grind))
theorem r_stuck {M : Mem} (hV : WF (M 85))  : Y 5 mX6_stuck 0 (lent 3 [.ref 84]) [] M (some (.int (sumF (fun t => ind (0 < M 85 (23 + 5 * t) ∧ sumF (fun g => b2i (canV (M 85) t g)) (nT (M 85)) = 0)) (nT (M 85))))) M := by
  refine x_iconstv (v := 0) dX6_stuck_0 (by decide) ?_
  refine x_istore_n dX6_stuck_1 (by decide) rfl ?_
  refine x_iconstv (v := 0) dX6_stuck_2 (by decide) ?_
  refine x_istore_n dX6_stuck_3 (by decide) rfl ?_
  exact r_stuck_loop hV (nT (M 85) + 1) 0 0 0 (Nat.zero_le _) (by omega) rfl rfl
