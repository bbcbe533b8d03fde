theorem y_can1 {M : Mem} {V : Row} (hR : RM M 1 V) (hV : WF V) {a b : Nat} (ha : a < nT V) (hb : b < nT V) (hab : bothB V (nI a) (nI b) = true) : Y 6 mX5_can 0 (lent 3 [.ref 0, .int (nI a), .int (nI b)]) [] M (some (.int (b2i (canV V a b)))) M := by
  have hh := y_hasBoth mk1 hR hV (a := nI a) (b := nI b)
  rw [hab] at hh
  skip
  refine x_aload_n dX5_can_0 rfl ?_
  refine y_getR fkX5_10 dX5_can_1 (by decide) rfl rfl ?_
  refine x_iload_n dX5_can_4 rfl ?_
  refine x_iload_n dX5_can_5 rfl ?_
  refine y_callV (as := [_, _]) okX2_hasBoth lkX5_98 dX5_can_6 rfl (by decide) rfl ((hh.more (d' := 5) (by omega))) (by omega) rfl (by simp [Value.category]) (Nat.le_of_ble_eq_true rfl) rfl rfl (cat8 rfl) ?_
  refine x_if_ne 14 dX5_can_9 (by decide) (fun c_9 => ?_) (fun c_9 => ?_)
  · refine x_aload_n dX5_can_14 rfl ?_
    refine y_getR fkX5_10 dX5_can_15 (by decide) rfl rfl ?_
    refine x_iload_n dX5_can_18 rfl ?_
    refine x_iload_n dX5_can_19 rfl ?_
    refine y_callV (as := [_, _]) okX2_canTake lkX5_182 dX5_can_20 rfl (by decide) rfl (y_canTake mk1 hR hV ha hb) (by omega) rfl (by simp [Value.category]) (Nat.le_of_ble_eq_true rfl) rfl rfl (cat8 rfl) ?_
    refine x_if_eq 30 dX5_can_23 (by decide) (fun c_23 => ?_) (fun c_23 => ?_)
    · refine x_iconstv (v := 0) dX5_can_30 (by decide) ?_
      exact y_ret dX5_can_31 rfl (rfl) (c_23.symm) (rfl)
    · refine x_iconstv (v := 1) dX5_can_26 (by decide) ?_
      refine x_goto 31 dX5_can_27 (by decide) ?_
      exact y_ret dX5_can_31 rfl (rfl) ((b2i_T (b2i_nz c_23)).symm) (rfl)
  · exact absurd c_9 (by decide)
theorem y_can0 {M : Mem} {V : Row} (hR : RM M 1 V) (hV : WF V) {a b : Int32} (hab : bothB V a b = false) : Y 6 mX5_can 0 (lent 3 [.ref 0, .int a, .int b]) [] M (some (.int (-1))) M := by
  have hh := y_hasBoth mk1 hR hV (a := a) (b := b)
  rw [hab] at hh
  skip
  refine x_aload_n dX5_can_0 rfl ?_
  refine y_getR fkX5_10 dX5_can_1 (by decide) rfl rfl ?_
  refine x_iload_n dX5_can_4 rfl ?_
  refine x_iload_n dX5_can_5 rfl ?_
  refine y_callV (as := [_, _]) okX2_hasBoth lkX5_98 dX5_can_6 rfl (by decide) rfl ((hh.more (d' := 5) (by omega))) (by omega) rfl (by simp [Value.category]) (Nat.le_of_ble_eq_true rfl) rfl rfl (cat8 rfl) ?_
  refine x_if_ne 14 dX5_can_9 (by decide) (fun c_9 => ?_) (fun c_9 => ?_)
  · exact absurd c_9 (by decide)
  · refine x_iconstv (v := -1) dX5_can_12 (by decide) ?_
    exact y_ret dX5_can_13 rfl (rfl) (rfl) (rfl)
theorem y_whyNot1 {M : Mem} {V : Row} (hR : RM M 1 V) (hV : WF V) {a b : Nat} (ha : a < nT V) (hb : b < nT V) (hab : bothB V (nI a) (nI b) = true) : Y 5 mX5_whyNot 0 (lent 3 [.ref 0, .int (nI a), .int (nI b)]) [] M (some (.int (rsn V a b))) M := by
  have hh := y_hasBoth mk1 hR hV (a := nI a) (b := nI b)
  rw [hab] at hh
  skip
  refine x_aload_n dX5_whyNot_0 rfl ?_
  refine y_getR fkX5_10 dX5_whyNot_1 (by decide) rfl rfl ?_
  refine x_iload_n dX5_whyNot_4 rfl ?_
  refine x_iload_n dX5_whyNot_5 rfl ?_
  refine y_callV (as := [_, _]) okX2_hasBoth lkX5_98 dX5_whyNot_6 rfl (by decide) rfl ((hh.more (d' := 4) (by omega))) (by omega) rfl (by simp [Value.category]) (Nat.le_of_ble_eq_true rfl) rfl rfl (cat8 rfl) ?_
  refine x_if_eq 24 dX5_whyNot_9 (by decide) (fun c_9 => ?_) (fun c_9 => ?_)
  · exact absurd c_9 (by decide)
  · refine x_aload_n dX5_whyNot_12 rfl ?_
    refine y_getR fkX5_10 dX5_whyNot_13 (by decide) rfl rfl ?_
    refine x_iload_n dX5_whyNot_16 rfl ?_
    refine x_iload_n dX5_whyNot_17 rfl ?_
    refine y_callV (as := [_, _]) okX2_refusal lkX5_185 dX5_whyNot_18 rfl (by decide) rfl (y_refusal mk1 hR hV ha hb) (by omega) rfl (by simp [Value.category]) (Nat.le_of_ble_eq_true rfl) rfl rfl (cat8 rfl) ?_
    refine x_goto 25 dX5_whyNot_21 (by decide) ?_
    exact y_ret dX5_whyNot_25 rfl (rfl) (rfl) (rfl)
theorem y_whyNot0 {M : Mem} {V : Row} (hR : RM M 1 V) (hV : WF V) {a b : Int32} (hab : bothB V a b = false) : Y 5 mX5_whyNot 0 (lent 3 [.ref 0, .int a, .int b]) [] M (some (.int (-1))) M := by
  have hh := y_hasBoth mk1 hR hV (a := a) (b := b)
  rw [hab] at hh
  skip
  refine x_aload_n dX5_whyNot_0 rfl ?_
  refine y_getR fkX5_10 dX5_whyNot_1 (by decide) rfl rfl ?_
  refine x_iload_n dX5_whyNot_4 rfl ?_
  refine x_iload_n dX5_whyNot_5 rfl ?_
  refine y_callV (as := [_, _]) okX2_hasBoth lkX5_98 dX5_whyNot_6 rfl (by decide) rfl ((hh.more (d' := 4) (by omega))) (by omega) rfl (by simp [Value.category]) (Nat.le_of_ble_eq_true rfl) rfl rfl (cat8 rfl) ?_
  refine x_if_eq 24 dX5_whyNot_9 (by decide) (fun c_9 => ?_) (fun c_9 => ?_)
  · refine x_iconstv (v := -1) dX5_whyNot_24 (by decide) ?_
    exact y_ret dX5_whyNot_25 rfl (rfl) (rfl) (rfl)
  · exact absurd rfl c_9
theorem r_can1 {M : Mem} (hV : WF (M 85)) {a b : Nat} (ha : a < nT (M 85)) (hb : b < nT (M 85)) (hab : bothB (M 85) (nI a) (nI b) = true) : Y 4 mX6_can 0 (lent 3 [.ref 84, .int (nI a), .int (nI b)]) [] M (some (.int (b2i (canV (M 85) a b)))) M := by
  have hh := r_arePair hV (a := nI a) (b := nI b)
  rw [hab] at hh
  skip
  refine x_aload_n dX6_can_0 rfl ?_
  refine x_iload_n dX6_can_1 rfl ?_
  refine x_iload_n dX6_can_2 rfl ?_
  refine y_callV (as := [_, _]) okX6_arePair lkX6_117 dX6_can_3 rfl (by decide) rfl ((hh.more (d' := 3) (by omega))) (by omega) rfl (by simp [Value.category]) (Nat.le_of_ble_eq_true rfl) rfl rfl (cat8 rfl) ?_
  refine x_if_ne 13 dX6_can_6 (by decide) (fun c_6 => ?_) (fun c_6 => ?_)
  · refine x_aload_n dX6_can_13 rfl ?_
    refine x_iload_n dX6_can_14 rfl ?_
    refine x_iload_n dX6_can_15 rfl ?_
    refine y_callV (as := [_, _]) okX6_takes lkX6_79 dX6_can_16 rfl (by decide) rfl (r_takes hV ha hb) (by omega) rfl (by simp [Value.category]) (Nat.le_of_ble_eq_true rfl) rfl rfl (cat8 rfl) ?_
    refine x_if_eq 26 dX6_can_19 (by decide) (fun c_19 => ?_) (fun c_19 => ?_)
    · refine x_iconstv (v := 0) dX6_can_26 (by decide) ?_
      exact y_ret dX6_can_27 rfl (rfl) (c_19.symm) (rfl)
    · refine x_iconstv (v := 1) dX6_can_22 (by decide) ?_
      refine x_goto 27 dX6_can_23 (by decide) ?_
      exact y_ret dX6_can_27 rfl (rfl) ((b2i_T (b2i_nz c_19)).symm) (rfl)
  · exact absurd c_6 (by decide)
theorem r_can0 {M : Mem} (hV : WF (M 85)) {a b : Int32} (hab : bothB (M 85) a b = false) : Y 4 mX6_can 0 (lent 3 [.ref 84, .int a, .int b]) [] M (some (.int (-1))) M := by
  have hh := r_arePair hV (a := a) (b := b)
  rw [hab] at hh
  skip
  refine x_aload_n dX6_can_0 rfl ?_
  refine x_iload_n dX6_can_1 rfl ?_
  refine x_iload_n dX6_can_2 rfl ?_
  refine y_callV (as := [_, _]) okX6_arePair lkX6_117 dX6_can_3 rfl (by decide) rfl ((hh.more (d' := 3) (by omega))) (by omega) rfl (by simp [Value.category]) (Nat.le_of_ble_eq_true rfl) rfl rfl (cat8 rfl) ?_
  refine x_if_ne 13 dX6_can_6 (by decide) (fun c_6 => ?_) (fun c_6 => ?_)
  · exact absurd c_6 (by decide)
  · refine x_iconstv (v := -1) dX6_can_9 (by decide) ?_
    refine x_goto 27 dX6_can_10 (by decide) ?_
    exact y_ret dX6_can_27 rfl (rfl) (rfl) (rfl)
theorem r_whyNot1 {M : Mem} (hV : WF (M 85)) {a b : Nat} (ha : a < nT (M 85)) (hb : b < nT (M 85)) (hab : bothB (M 85) (nI a) (nI b) = true) : Y 4 mX6_whyNot 0 (lent 3 [.ref 84, .int (nI a), .int (nI b)]) [] M (some (.int (rsn (M 85) a b))) M := by
  have hh := r_arePair hV (a := nI a) (b := nI b)
  rw [hab] at hh
  skip
  refine x_aload_n dX6_whyNot_0 rfl ?_
  refine x_iload_n dX6_whyNot_1 rfl ?_
  refine x_iload_n dX6_whyNot_2 rfl ?_
  refine y_callV (as := [_, _]) okX6_arePair lkX6_117 dX6_whyNot_3 rfl (by decide) rfl ((hh.more (d' := 3) (by omega))) (by omega) rfl (by simp [Value.category]) (Nat.le_of_ble_eq_true rfl) rfl rfl (cat8 rfl) ?_
  refine x_if_eq 18 dX6_whyNot_6 (by decide) (fun c_6 => ?_) (fun c_6 => ?_)
  · exact absurd c_6 (by decide)
  · refine x_aload_n dX6_whyNot_9 rfl ?_
    refine x_iload_n dX6_whyNot_10 rfl ?_
    refine x_iload_n dX6_whyNot_11 rfl ?_
    refine y_callV (as := [_, _]) okX6_reason lkX6_102 dX6_whyNot_12 rfl (by decide) rfl (r_reason hV ha hb) (by omega) rfl (by simp [Value.category]) (Nat.le_of_ble_eq_true rfl) rfl rfl (cat8 rfl) ?_
    refine x_goto 19 dX6_whyNot_15 (by decide) ?_
    exact y_ret dX6_whyNot_19 rfl (rfl) (rfl) (rfl)
theorem r_whyNot0 {M : Mem} (hV : WF (M 85)) {a b : Int32} (hab : bothB (M 85) a b = false) : Y 4 mX6_whyNot 0 (lent 3 [.ref 84, .int a, .int b]) [] M (some (.int (-1))) M := by
  have hh := r_arePair hV (a := a) (b := b)
  rw [hab] at hh
  skip
  refine x_aload_n dX6_whyNot_0 rfl ?_
  refine x_iload_n dX6_whyNot_1 rfl ?_
  refine x_iload_n dX6_whyNot_2 rfl ?_
  refine y_callV (as := [_, _]) okX6_arePair lkX6_117 dX6_whyNot_3 rfl (by decide) rfl ((hh.more (d' := 3) (by omega))) (by omega) rfl (by simp [Value.category]) (Nat.le_of_ble_eq_true rfl) rfl rfl (cat8 rfl) ?_
  refine x_if_eq 18 dX6_whyNot_6 (by decide) (fun c_6 => ?_) (fun c_6 => ?_)
  · refine x_iconstv (v := -1) dX6_whyNot_18 (by decide) ?_
    exact y_ret dX6_whyNot_19 rfl (rfl) (rfl) (rfl)
  · exact absurd rfl c_6
theorem y_kind_0 {M : Mem} {V : Row} (hR : RM M 1 V) (hV : WF V) {k : Nat} (hk : k < 6) : Y 5 mX5_kind 0 (lent 3 [.ref 0, .int (nI k), .int (nI 0)]) [] M (some (.int (V (10 + 2 * k)))) M := by
  have hi := y_isKindT (M := M) (vp_in_nI (n := k) (N := 6) hk (by decide))
  skip
  refine x_iload_n dX5_kind_0 rfl ?_
  refine y_callS (as := [_]) okX5_isKind lkX5_54 dX5_kind_1 rfl ((hi.more (d' := 4) (by omega))) (by omega) rfl (by simp [Value.category]) (Nat.le_of_ble_eq_true rfl) (cat8 rfl) ?_
  refine x_if_ne 9 dX5_kind_4 (by decide) (fun c_4 => ?_) (fun c_4 => ?_)
  · refine x_iload_n dX5_kind_9 rfl ?_
    refine x_tableIn (off := 38) 48 dX5_kind_10 (by decide) (by decide) (by decide) (by decide) ?_
    refine x_aload_n dX5_kind_48 rfl ?_
    refine y_getR fkX5_10 dX5_kind_49 (by decide) rfl rfl ?_
    refine y_getR fkX5_86 dX5_kind_52 (by decide) rfl rfl ?_
    refine x_iload_n dX5_kind_55 rfl ?_
    refine y_ialdn (j := k) dX5_kind_56 (by decide) rfl (ixN (by omega)) (by omega) ?_
    exact y_ret dX5_kind_57 rfl (rfl) ((hR.2.1 k hk).1) (rfl)
  · exact absurd c_4 (by decide)
theorem y_kind_1 {M : Mem} {V : Row} (hR : RM M 1 V) (hV : WF V) {k : Nat} (hk : k < 6) : Y 5 mX5_kind 0 (lent 3 [.ref 0, .int (nI k), .int (nI 1)]) [] M (some (.int (waresV V (nI k)))) M := by
  have hi := y_isKindT (M := M) (vp_in_nI (n := k) (N := 6) hk (by decide))
  skip
  refine x_iload_n dX5_kind_0 rfl ?_
  refine y_callS (as := [_]) okX5_isKind lkX5_54 dX5_kind_1 rfl ((hi.more (d' := 4) (by omega))) (by omega) rfl (by simp [Value.category]) (Nat.le_of_ble_eq_true rfl) (cat8 rfl) ?_
  refine x_if_ne 9 dX5_kind_4 (by decide) (fun c_4 => ?_) (fun c_4 => ?_)
  · refine x_iload_n dX5_kind_9 rfl ?_
    refine x_tableIn (off := 48) 58 dX5_kind_10 (by decide) (by decide) (by decide) (by decide) ?_
    refine x_aload_n dX5_kind_58 rfl ?_
    refine y_getR fkX5_10 dX5_kind_59 (by decide) rfl rfl ?_
    refine x_iload_n dX5_kind_62 rfl ?_
    refine y_callV (as := [_]) okX2_waresOfKind lkX5_195 dX5_kind_63 rfl (by decide) rfl (((y_waresOfKind mk1 hR hV).more (d' := 4) (by omega))) (by omega) rfl (by simp [Value.category]) (Nat.le_of_ble_eq_true rfl) rfl rfl (cat8 rfl) ?_
    exact y_ret dX5_kind_66 rfl (rfl) (rfl) (rfl)
  · exact absurd c_4 (by decide)
theorem y_kind_2 {M : Mem} {V : Row} (hR : RM M 1 V) (hV : WF V) {k : Nat} (hk : k < 6) : Y 5 mX5_kind 0 (lent 3 [.ref 0, .int (nI k), .int (nI 2)]) [] M (some (.int (waresV V (nI k) - swaresV V (nI k)))) M := by
  have hi := y_isKindT (M := M) (vp_in_nI (n := k) (N := 6) hk (by decide))
  skip
  refine x_iload_n dX5_kind_0 rfl ?_
  refine y_callS (as := [_]) okX5_isKind lkX5_54 dX5_kind_1 rfl ((hi.more (d' := 4) (by omega))) (by omega) rfl (by simp [Value.category]) (Nat.le_of_ble_eq_true rfl) (cat8 rfl) ?_
  refine x_if_ne 9 dX5_kind_4 (by decide) (fun c_4 => ?_) (fun c_4 => ?_)
  · refine x_iload_n dX5_kind_9 rfl ?_
    refine x_tableIn (off := 57) 67 dX5_kind_10 (by decide) (by decide) (by decide) (by decide) ?_
    refine x_aload_n dX5_kind_67 rfl ?_
    refine y_getR fkX5_10 dX5_kind_68 (by decide) rfl rfl ?_
    refine x_iload_n dX5_kind_71 rfl ?_
    refine y_callV (as := [_]) okX2_waresOfKind lkX5_195 dX5_kind_72 rfl (by decide) rfl (((y_waresOfKind mk1 hR hV).more (d' := 4) (by omega))) (by omega) rfl (by simp [Value.category]) (Nat.le_of_ble_eq_true rfl) rfl rfl (cat8 rfl) ?_
    refine x_aload_n dX5_kind_75 rfl ?_
    refine y_getR fkX5_10 dX5_kind_76 (by decide) rfl rfl ?_
    refine x_iload_n dX5_kind_79 rfl ?_
    refine y_callV (as := [_]) okX2_soundWaresOfKind lkX5_198 dX5_kind_80 rfl (by decide) rfl (y_soundWaresOfKind mk1 hR hV) (by omega) rfl (by simp [Value.category]) (Nat.le_of_ble_eq_true rfl) rfl rfl (cat8 rfl) ?_
    refine x_isub dX5_kind_83 ?_
    exact y_ret dX5_kind_84 rfl (rfl) (rfl) (rfl)
  · exact absurd c_4 (by decide)
theorem y_kind_3 {M : Mem} {V : Row} (hR : RM M 1 V) (hV : WF V) {k : Nat} (hk : k < 6) : Y 5 mX5_kind 0 (lent 3 [.ref 0, .int (nI k), .int (nI 3)]) [] M (some (.int (wantV V (nI k)))) M := by
  have hi := y_isKindT (M := M) (vp_in_nI (n := k) (N := 6) hk (by decide))
  skip
  refine x_iload_n dX5_kind_0 rfl ?_
  refine y_callS (as := [_]) okX5_isKind lkX5_54 dX5_kind_1 rfl ((hi.more (d' := 4) (by omega))) (by omega) rfl (by simp [Value.category]) (Nat.le_of_ble_eq_true rfl) (cat8 rfl) ?_
  refine x_if_ne 9 dX5_kind_4 (by decide) (fun c_4 => ?_) (fun c_4 => ?_)
  · refine x_iload_n dX5_kind_9 rfl ?_
    refine x_tableIn (off := 75) 85 dX5_kind_10 (by decide) (by decide) (by decide) (by decide) ?_
    refine x_aload_n dX5_kind_85 rfl ?_
    refine y_getR fkX5_10 dX5_kind_86 (by decide) rfl rfl ?_
    refine x_iload_n dX5_kind_89 rfl ?_
    refine y_callV (as := [_]) okX2_tradersWhoWant lkX5_201 dX5_kind_90 rfl (by decide) rfl (((y_tradersWhoWant mk1 hR hV).more (d' := 4) (by omega))) (by omega) rfl (by simp [Value.category]) (Nat.le_of_ble_eq_true rfl) rfl rfl (cat8 rfl) ?_
    exact y_ret dX5_kind_93 rfl (rfl) (rfl) (rfl)
  · exact absurd c_4 (by decide)
theorem y_kind_4 {M : Mem} {V : Row} (hR : RM M 1 V) (hV : WF V) {k : Nat} (hk : k < 6) : Y 5 mX5_kind 0 (lent 3 [.ref 0, .int (nI k), .int (nI 4)]) [] M (some (.int (makeV V (nI k)))) M := by
  have hi := y_isKindT (M := M) (vp_in_nI (n := k) (N := 6) hk (by decide))
  skip
  refine x_iload_n dX5_kind_0 rfl ?_
  refine y_callS (as := [_]) okX5_isKind lkX5_54 dX5_kind_1 rfl ((hi.more (d' := 4) (by omega))) (by omega) rfl (by simp [Value.category]) (Nat.le_of_ble_eq_true rfl) (cat8 rfl) ?_
  refine x_if_ne 9 dX5_kind_4 (by decide) (fun c_4 => ?_) (fun c_4 => ?_)
  · refine x_iload_n dX5_kind_9 rfl ?_
    refine x_tableIn (off := 84) 94 dX5_kind_10 (by decide) (by decide) (by decide) (by decide) ?_
    refine x_aload_n dX5_kind_94 rfl ?_
    refine y_getR fkX5_10 dX5_kind_95 (by decide) rfl rfl ?_
    refine x_iload_n dX5_kind_98 rfl ?_
    refine y_callV (as := [_]) okX2_tradersWhoMake lkX5_204 dX5_kind_99 rfl (by decide) rfl (((y_tradersWhoMake mk1 hR hV).more (d' := 4) (by omega))) (by omega) rfl (by simp [Value.category]) (Nat.le_of_ble_eq_true rfl) rfl rfl (cat8 rfl) ?_
    exact y_ret dX5_kind_102 rfl (rfl) (rfl) (rfl)
  · exact absurd c_4 (by decide)
theorem y_kind_5 {M : Mem} {V : Row} (hR : RM M 1 V) (hV : WF V) {k : Nat} (hk : k < 6) : Y 5 mX5_kind 0 (lent 3 [.ref 0, .int (nI k), .int (nI 5)]) [] M (some (.int (V (11 + 2 * k)))) M := by
  have hi := y_isKindT (M := M) (vp_in_nI (n := k) (N := 6) hk (by decide))
  skip
  refine x_iload_n dX5_kind_0 rfl ?_
  refine y_callS (as := [_]) okX5_isKind lkX5_54 dX5_kind_1 rfl ((hi.more (d' := 4) (by omega))) (by omega) rfl (by simp [Value.category]) (Nat.le_of_ble_eq_true rfl) (cat8 rfl) ?_
  refine x_if_ne 9 dX5_kind_4 (by decide) (fun c_4 => ?_) (fun c_4 => ?_)
  · refine x_iload_n dX5_kind_9 rfl ?_
    refine x_tableIn (off := 93) 103 dX5_kind_10 (by decide) (by decide) (by decide) (by decide) ?_
    refine x_aload_n dX5_kind_103 rfl ?_
    refine y_getR fkX5_10 dX5_kind_104 (by decide) rfl rfl ?_
    refine y_getR fkX5_207 dX5_kind_107 (by decide) rfl rfl ?_
    refine x_iload_n dX5_kind_110 rfl ?_
    refine y_ialdn (j := k) dX5_kind_111 (by decide) rfl (ixN (by omega)) (by omega) ?_
    exact y_ret dX5_kind_112 rfl (rfl) ((hR.2.1 k hk).2) (rfl)
  · exact absurd c_4 (by decide)
theorem y_kind_d {M : Mem} {V : Row} (hR : RM M 1 V) (hV : WF V) {k : Nat} (hk : k < 6) {x : Int32} (hx : x.toInt < 0 ∨ 5 < x.toInt) : Y 5 mX5_kind 0 (lent 3 [.ref 0, .int (nI k), .int x]) [] M (some (.int (-1))) M := by
  have hi := y_isKindT (M := M) (vp_in_nI (n := k) (N := 6) hk (by decide))
  skip
  refine x_iload_n dX5_kind_0 rfl ?_
  refine y_callS (as := [_]) okX5_isKind lkX5_54 dX5_kind_1 rfl ((hi.more (d' := 4) (by omega))) (by omega) rfl (by simp [Value.category]) (Nat.le_of_ble_eq_true rfl) (cat8 rfl) ?_
  refine x_if_ne 9 dX5_kind_4 (by decide) (fun c_4 => ?_) (fun c_4 => ?_)
  · refine x_iload_n dX5_kind_9 rfl ?_
    refine x_tableOut 113 dX5_kind_10 (hx) (by decide) ?_
    refine x_iconstv (v := -1) dX5_kind_113 (by decide) ?_
    exact y_ret dX5_kind_114 rfl (rfl) (rfl) (rfl)
  · exact absurd c_4 (by decide)
theorem y_kind_n {M : Mem} {k x : Int32} (hx : ¬ (0 ≤ k ∧ k < 6)) : Y 5 mX5_kind 0 (lent 3 [.ref 0, .int k, .int x]) [] M (some (.int (-1))) M := by
  skip
  refine x_iload_n dX5_kind_0 rfl ?_
  refine y_callS (as := [_]) okX5_isKind lkX5_54 dX5_kind_1 rfl ((y_isKind.more (d' := 4) (by omega))) (by omega) rfl (by simp [Value.category]) (Nat.le_of_ble_eq_true rfl) (cat8 rfl) ?_
  refine x_if_ne 9 dX5_kind_4 (by decide) (fun c_4 => ?_) (fun c_4 => ?_)
  · exact absurd (in_bitl.mp (b2i_nz c_4)) hx
  · refine x_iconstv (v := -1) dX5_kind_7 (by decide) ?_
    exact y_ret dX5_kind_8 rfl (rfl) (rfl) (rfl)
theorem r_sumOf1_loop {M : Mem} (hV : WF (M 85)) {k : Nat} (hk6 : k < 6) : ∀ (fu i : Nat) (acc x : Int32) (l5 l6 : Option Value), i ≤ nT (M 85) → nT (M 85) - i < fu → x = nI i → acc = sumF (fun t => ind (M 85 (24 + 5 * t) = nI k)) i → Y 3 mX6_sumOf 5 [some (.ref 84), some (.int (nI k)), some (.int (nI 1)), some (.int acc), some (.int x), l5, l6] [] M (some (.int (sumF (fun t => ind (M 85 (24 + 5 * t) = nI k)) (nT (M 85))))) M := by
  obtain ⟨hn1, hn2⟩ := WF_n hV
  intro fu
  induction fu with
  | zero => intro i acc x l5 l6 h1 h2; omega
  | succ fu ih =>
    intro i acc x l5 l6 h1 h2 hx ha9
    subst hx
    refine x_iload dX6_sumOf_5 rfl ?_
    refine x_aload_n dX6_sumOf_7 rfl ?_
    refine y_getR fkX6_7 dX6_sumOf_8 (by decide) rfl rfl ?_
    refine x_iconstv (v := 1) dX6_sumOf_11 (by decide) ?_
    refine y_ialdn (j := 1) dX6_sumOf_12 (by decide) rfl (by decide) (by decide) ?_
    refine x_icmp_ge 136 dX6_sumOf_13 (by decide) (fun c_13 => ?_) (fun c_13 => ?_)
    · have he := lp_eq hV rfl h1 c_13
      subst he
      refine x_iload_n dX6_sumOf_136 rfl ?_
      exact y_ret dX6_sumOf_137 rfl (rfl) (ha9) (rfl)
    · have hlt := lp_lt hV rfl h1 c_13
      refine x_aload_n dX6_sumOf_16 rfl ?_
      refine x_iload dX6_sumOf_17 rfl ?_
      refine x_iconstv (v := 2) dX6_sumOf_19 (by decide) ?_
      refine y_callV (as := [_, _]) okX6_of lkX6_65 dX6_sumOf_20 rfl (by decide) rfl (((r_of2 (b6 hV hlt)).more (d' := 2) (by omega))) (by omega) rfl (by simp [Value.category]) (Nat.le_of_ble_eq_true rfl) rfl rfl (cat8 rfl) ?_
      refine x_iload_n dX6_sumOf_23 rfl ?_
      refine x_icmp_ne 31 dX6_sumOf_24 (by decide) (fun c_24 => ?_) (fun c_24 => ?_)
      · refine x_iconstv (v := 0) dX6_sumOf_31 (by decide) ?_
        refine x_istore dX6_sumOf_32 (by decide) rfl ?_
        refine x_iload_n dX6_sumOf_34 rfl ?_
        refine x_iconstv (v := 1) dX6_sumOf_35 (by decide) ?_
        refine x_icmp_ne 44 dX6_sumOf_36 (by decide) (fun c_36 => ?_) (fun c_36 => ?_)
        · exact absurd c_36 (by decide)
        · refine x_iload dX6_sumOf_39 rfl ?_
          refine x_goto 115 dX6_sumOf_41 (by decide) ?_
          refine x_istore dX6_sumOf_115 (by decide) rfl ?_
          refine x_iload_n dX6_sumOf_117 rfl ?_
          refine x_iload dX6_sumOf_118 rfl ?_
          refine x_if_eq 127 dX6_sumOf_120 (by decide) (fun c_120 => ?_) (fun c_120 => ?_)
          · refine x_iconstv (v := 0) dX6_sumOf_127 (by decide) ?_
            refine x_iadd dX6_sumOf_128 ?_
            refine x_istore_n dX6_sumOf_129 (by decide) rfl ?_
            refine x_iincv (v := 1) dX6_sumOf_130 rfl (by decide) rfl (by decide) ?_
            refine x_goto 5 dX6_sumOf_133 (by decide) ?_
            exact ih (i + 1) _ _ _ _ (by omega) (by omega) (by rw [nI_1]) (by first | (simp_all [sumF, ind, b2i_z, b2i, dl_z]; done) | (simp_all [sumF, ind, b2i_z, b2i, dl_z] <;> grind))
          · exact absurd c_120 (by decide)
      · refine x_iconstv (v := 1) dX6_sumOf_27 (by decide) ?_
        refine x_goto 32 dX6_sumOf_28 (by decide) ?_
        refine x_istore dX6_sumOf_32 (by decide) rfl ?_
        refine x_iload_n dX6_sumOf_34 rfl ?_
        refine x_iconstv (v := 1) dX6_sumOf_35 (by decide) ?_
        refine x_icmp_ne 44 dX6_sumOf_36 (by decide) (fun c_36 => ?_) (fun c_36 => ?_)
        · exact absurd c_36 (by decide)
        · refine x_iload dX6_sumOf_39 rfl ?_
          refine x_goto 115 dX6_sumOf_41 (by decide) ?_
          refine x_istore dX6_sumOf_115 (by decide) rfl ?_
          refine x_iload_n dX6_sumOf_117 rfl ?_
          refine x_iload dX6_sumOf_118 rfl ?_
          refine x_if_eq 127 dX6_sumOf_120 (by decide) (fun c_120 => ?_) (fun c_120 => ?_)
          · exact absurd c_120 (by decide)
          · refine x_iconstv (v := 1) dX6_sumOf_123 (by decide) ?_
            refine x_goto 128 dX6_sumOf_124 (by decide) ?_
            refine x_iadd dX6_sumOf_128 ?_
            refine x_istore_n dX6_sumOf_129 (by decide) rfl ?_
            refine x_iincv (v := 1) dX6_sumOf_130 rfl (by decide) rfl (by decide) ?_
            refine x_goto 5 dX6_sumOf_133 (by decide) ?_
            exact ih (i + 1) _ _ _ _ (by omega) (by omega) (by rw [nI_1]) (by first | (simp_all [sumF, ind, b2i_z, b2i, dl_z]; done) | (simp_all [sumF, ind, b2i_z, b2i, dl_z] <;> grind))
theorem r_sumOf1 {M : Mem} (hV : WF (M 85)) {k : Nat} (hk6 : k < 6) : Y 3 mX6_sumOf 0 (lent 7 [.ref 84, .int (nI k), .int (nI 1)]) [] M (some (.int (sumF (fun t => ind (M 85 (24 + 5 * t) = nI k)) (nT (M 85))))) M := by
  refine x_iconstv (v := 0) dX6_sumOf_0 (by decide) ?_
  refine x_istore_n dX6_sumOf_1 (by decide) rfl ?_
  refine x_iconstv (v := 0) dX6_sumOf_2 (by decide) ?_
  refine x_istore dX6_sumOf_3 (by decide) rfl ?_
  exact r_sumOf1_loop hV hk6 (nT (M 85) + 1) 0 0 0 none none (Nat.zero_le _) (by omega) rfl rfl
theorem r_sumOf2_loop {M : Mem} (hV : WF (M 85)) {k : Nat} (hk6 : k < 6) : ∀ (fu i : Nat) (acc x : Int32) (l5 l6 : Option Value), i ≤ nT (M 85) → nT (M 85) - i < fu → x = nI i → acc = sumF (fun t => ind (M 85 (24 + 5 * t) = nI k ∧ ¬ 0 < dli (M 85) t)) i → Y 3 mX6_sumOf 5 [some (.ref 84), some (.int (nI k)), some (.int (nI 2)), some (.int acc), some (.int x), l5, l6] [] M (some (.int (sumF (fun t => ind (M 85 (24 + 5 * t) = nI k ∧ ¬ 0 < dli (M 85) t)) (nT (M 85))))) M := by
  obtain ⟨hn1, hn2⟩ := WF_n hV
  intro fu
  induction fu with
  | zero => intro i acc x l5 l6 h1 h2; omega
  | succ fu ih =>
    intro i acc x l5 l6 h1 h2 hx ha9
    subst hx
    refine x_iload dX6_sumOf_5 rfl ?_
    refine x_aload_n dX6_sumOf_7 rfl ?_
    refine y_getR fkX6_7 dX6_sumOf_8 (by decide) rfl rfl ?_
    refine x_iconstv (v := 1) dX6_sumOf_11 (by decide) ?_
    refine y_ialdn (j := 1) dX6_sumOf_12 (by decide) rfl (by decide) (by decide) ?_
    refine x_icmp_ge 136 dX6_sumOf_13 (by decide) (fun c_13 => ?_) (fun c_13 => ?_)
    · have he := lp_eq hV rfl h1 c_13
      subst he
      refine x_iload_n dX6_sumOf_136 rfl ?_
      exact y_ret dX6_sumOf_137 rfl (rfl) (ha9) (rfl)
    · have hlt := lp_lt hV rfl h1 c_13
      refine x_aload_n dX6_sumOf_16 rfl ?_
      refine x_iload dX6_sumOf_17 rfl ?_
      refine x_iconstv (v := 2) dX6_sumOf_19 (by decide) ?_
      refine y_callV (as := [_, _]) okX6_of lkX6_65 dX6_sumOf_20 rfl (by decide) rfl (((r_of2 (b6 hV hlt)).more (d' := 2) (by omega))) (by omega) rfl (by simp [Value.category]) (Nat.le_of_ble_eq_true rfl) rfl rfl (cat8 rfl) ?_
      refine x_iload_n dX6_sumOf_23 rfl ?_
      refine x_icmp_ne 31 dX6_sumOf_24 (by decide) (fun c_24 => ?_) (fun c_24 => ?_)
      · refine x_iconstv (v := 0) dX6_sumOf_31 (by decide) ?_
        refine x_istore dX6_sumOf_32 (by decide) rfl ?_
        refine x_iload_n dX6_sumOf_34 rfl ?_
        refine x_iconstv (v := 1) dX6_sumOf_35 (by decide) ?_
        refine x_icmp_ne 44 dX6_sumOf_36 (by decide) (fun c_36 => ?_) (fun c_36 => ?_)
        · refine x_iload_n dX6_sumOf_44 rfl ?_
          refine x_iconstv (v := 2) dX6_sumOf_45 (by decide) ?_
          refine x_icmp_ne 71 dX6_sumOf_46 (by decide) (fun c_46 => ?_) (fun c_46 => ?_)
          · exact absurd c_46 (by decide)
          · refine x_iload dX6_sumOf_49 rfl ?_
            refine x_if_eq 67 dX6_sumOf_51 (by decide) (fun c_51 => ?_) (fun c_51 => ?_)
            · refine x_iconstv (v := 0) dX6_sumOf_67 (by decide) ?_
              refine x_goto 115 dX6_sumOf_68 (by decide) ?_
              refine x_istore dX6_sumOf_115 (by decide) rfl ?_
              refine x_iload_n dX6_sumOf_117 rfl ?_
              refine x_iload dX6_sumOf_118 rfl ?_
              refine x_if_eq 127 dX6_sumOf_120 (by decide) (fun c_120 => ?_) (fun c_120 => ?_)
              · refine x_iconstv (v := 0) dX6_sumOf_127 (by decide) ?_
                refine x_iadd dX6_sumOf_128 ?_
                refine x_istore_n dX6_sumOf_129 (by decide) rfl ?_
                refine x_iincv (v := 1) dX6_sumOf_130 rfl (by decide) rfl (by decide) ?_
                refine x_goto 5 dX6_sumOf_133 (by decide) ?_
                exact ih (i + 1) _ _ _ _ (by omega) (by omega) (by rw [nI_1]) (by first | (simp_all [sumF, ind, b2i_z, b2i, dl_z]; done) | (simp_all [sumF, ind, b2i_z, b2i, dl_z] <;> grind))
              · exact absurd c_120 (by decide)
            · exact absurd c_51 (by decide)
        · exact absurd c_36 (by decide)
      · refine x_iconstv (v := 1) dX6_sumOf_27 (by decide) ?_
        refine x_goto 32 dX6_sumOf_28 (by decide) ?_
        refine x_istore dX6_sumOf_32 (by decide) rfl ?_
        refine x_iload_n dX6_sumOf_34 rfl ?_
        refine x_iconstv (v := 1) dX6_sumOf_35 (by decide) ?_
        refine x_icmp_ne 44 dX6_sumOf_36 (by decide) (fun c_36 => ?_) (fun c_36 => ?_)
        · refine x_iload_n dX6_sumOf_44 rfl ?_
          refine x_iconstv (v := 2) dX6_sumOf_45 (by decide) ?_
          refine x_icmp_ne 71 dX6_sumOf_46 (by decide) (fun c_46 => ?_) (fun c_46 => ?_)
          · exact absurd c_46 (by decide)
          · refine x_iload dX6_sumOf_49 rfl ?_
            refine x_if_eq 67 dX6_sumOf_51 (by decide) (fun c_51 => ?_) (fun c_51 => ?_)
            · exact absurd c_51 (by decide)
            · refine x_aload_n dX6_sumOf_54 rfl ?_
              refine x_iload dX6_sumOf_55 rfl ?_
              refine y_callV (as := [_]) okX6_daysLeft lkX6_68 dX6_sumOf_57 rfl (by decide) rfl (r_daysLeft hV hlt) (by omega) rfl (by simp [Value.category]) (Nat.le_of_ble_eq_true rfl) rfl rfl (cat8 rfl) ?_
              refine x_if_ne 67 dX6_sumOf_60 (by decide) (fun c_60 => ?_) (fun c_60 => ?_)
              · refine x_iconstv (v := 0) dX6_sumOf_67 (by decide) ?_
                refine x_goto 115 dX6_sumOf_68 (by decide) ?_
                refine x_istore dX6_sumOf_115 (by decide) rfl ?_
                refine x_iload_n dX6_sumOf_117 rfl ?_
                refine x_iload dX6_sumOf_118 rfl ?_
                refine x_if_eq 127 dX6_sumOf_120 (by decide) (fun c_120 => ?_) (fun c_120 => ?_)
                · refine x_iconstv (v := 0) dX6_sumOf_127 (by decide) ?_
                  refine x_iadd dX6_sumOf_128 ?_
                  refine x_istore_n dX6_sumOf_129 (by decide) rfl ?_
                  refine x_iincv (v := 1) dX6_sumOf_130 rfl (by decide) rfl (by decide) ?_
                  refine x_goto 5 dX6_sumOf_133 (by decide) ?_
                  exact ih (i + 1) _ _ _ _ (by omega) (by omega) (by rw [nI_1]) (by first | (simp_all [sumF, ind, b2i_z, b2i, dl_z]; done) | (simp_all [sumF, ind, b2i_z, b2i, dl_z] <;> grind))
                · exact absurd c_120 (by decide)
              · refine x_iconstv (v := 1) dX6_sumOf_63 (by decide) ?_
                refine x_goto 115 dX6_sumOf_64 (by decide) ?_
                refine x_istore dX6_sumOf_115 (by decide) rfl ?_
                refine x_iload_n dX6_sumOf_117 rfl ?_
                refine x_iload dX6_sumOf_118 rfl ?_
                refine x_if_eq 127 dX6_sumOf_120 (by decide) (fun c_120 => ?_) (fun c_120 => ?_)
                · exact absurd c_120 (by decide)
                · refine x_iconstv (v := 1) dX6_sumOf_123 (by decide) ?_
                  refine x_goto 128 dX6_sumOf_124 (by decide) ?_
                  refine x_iadd dX6_sumOf_128 ?_
                  refine x_istore_n dX6_sumOf_129 (by decide) rfl ?_
                  refine x_iincv (v := 1) dX6_sumOf_130 rfl (by decide) rfl (by decide) ?_
                  refine x_goto 5 dX6_sumOf_133 (by decide) ?_
                  exact ih (i + 1) _ _ _ _ (by omega) (by omega) (by rw [nI_1]) (by first | (simp_all [sumF, ind, b2i_z, b2i, dl_z]; done) | (simp_all [sumF, ind, b2i_z, b2i, dl_z] <;> grind))
        · exact absurd c_36 (by decide)
theorem r_sumOf2 {M : Mem} (hV : WF (M 85)) {k : Nat} (hk6 : k < 6) : Y 3 mX6_sumOf 0 (lent 7 [.ref 84, .int (nI k), .int (nI 2)]) [] M (some (.int (sumF (fun t => ind (M 85 (24 + 5 * t) = nI k ∧ ¬ 0 < dli (M 85) t)) (nT (M 85))))) M := by
  refine x_iconstv (v := 0) dX6_sumOf_0 (by decide) ?_
  refine x_istore_n dX6_sumOf_1 (by decide) rfl ?_
  refine x_iconstv (v := 0) dX6_sumOf_2 (by decide) ?_
  refine x_istore dX6_sumOf_3 (by decide) rfl ?_
  exact r_sumOf2_loop hV hk6 (nT (M 85) + 1) 0 0 0 none none (Nat.zero_le _) (by omega) rfl rfl
theorem r_sumOf3_loop {M : Mem} (hV : WF (M 85)) {k : Nat} (hk6 : k < 6) : ∀ (fu i : Nat) (acc x : Int32) (l5 l6 : Option Value), i ≤ nT (M 85) → nT (M 85) - i < fu → x = nI i → acc = sumF (fun t => ind (M 85 (23 + 5 * t) >>> (nI k &&& 31) &&& 1 = 1)) i → Y 3 mX6_sumOf 5 [some (.ref 84), some (.int (nI k)), some (.int (nI 3)), some (.int acc), some (.int x), l5, l6] [] M (some (.int (sumF (fun t => ind (M 85 (23 + 5 * t) >>> (nI k &&& 31) &&& 1 = 1)) (nT (M 85))))) M := by
  obtain ⟨hn1, hn2⟩ := WF_n hV
  intro fu
  induction fu with
  | zero => intro i acc x l5 l6 h1 h2; omega
  | succ fu ih =>
    intro i acc x l5 l6 h1 h2 hx ha9
    subst hx
    refine x_iload dX6_sumOf_5 rfl ?_
    refine x_aload_n dX6_sumOf_7 rfl ?_
    refine y_getR fkX6_7 dX6_sumOf_8 (by decide) rfl rfl ?_
    refine x_iconstv (v := 1) dX6_sumOf_11 (by decide) ?_
    refine y_ialdn (j := 1) dX6_sumOf_12 (by decide) rfl (by decide) (by decide) ?_
    refine x_icmp_ge 136 dX6_sumOf_13 (by decide) (fun c_13 => ?_) (fun c_13 => ?_)
    · have he := lp_eq hV rfl h1 c_13
      subst he
      refine x_iload_n dX6_sumOf_136 rfl ?_
      exact y_ret dX6_sumOf_137 rfl (rfl) (ha9) (rfl)
    · have hlt := lp_lt hV rfl h1 c_13
      refine x_aload_n dX6_sumOf_16 rfl ?_
      refine x_iload dX6_sumOf_17 rfl ?_
      refine x_iconstv (v := 2) dX6_sumOf_19 (by decide) ?_
      refine y_callV (as := [_, _]) okX6_of lkX6_65 dX6_sumOf_20 rfl (by decide) rfl (((r_of2 (b6 hV hlt)).more (d' := 2) (by omega))) (by omega) rfl (by simp [Value.category]) (Nat.le_of_ble_eq_true rfl) rfl rfl (cat8 rfl) ?_
      refine x_iload_n dX6_sumOf_23 rfl ?_
      refine x_icmp_ne 31 dX6_sumOf_24 (by decide) (fun c_24 => ?_) (fun c_24 => ?_)
      · refine x_iconstv (v := 0) dX6_sumOf_31 (by decide) ?_
        refine x_istore dX6_sumOf_32 (by decide) rfl ?_
        refine x_iload_n dX6_sumOf_34 rfl ?_
        refine x_iconstv (v := 1) dX6_sumOf_35 (by decide) ?_
        refine x_icmp_ne 44 dX6_sumOf_36 (by decide) (fun c_36 => ?_) (fun c_36 => ?_)
        · refine x_iload_n dX6_sumOf_44 rfl ?_
          refine x_iconstv (v := 2) dX6_sumOf_45 (by decide) ?_
          refine x_icmp_ne 71 dX6_sumOf_46 (by decide) (fun c_46 => ?_) (fun c_46 => ?_)
          · refine x_iload_n dX6_sumOf_71 rfl ?_
            refine x_iconstv (v := 3) dX6_sumOf_72 (by decide) ?_
            refine x_icmp_ne 99 dX6_sumOf_73 (by decide) (fun c_73 => ?_) (fun c_73 => ?_)
            · exact absurd c_73 (by decide)
            · refine x_aload_n dX6_sumOf_76 rfl ?_
              refine x_iload dX6_sumOf_77 rfl ?_
              refine x_iconstv (v := 1) dX6_sumOf_79 (by decide) ?_
              refine y_callV (as := [_, _]) okX6_of lkX6_65 dX6_sumOf_80 rfl (by decide) rfl (((r_of1 (b6 hV hlt)).more (d' := 2) (by omega))) (by omega) rfl (by simp [Value.category]) (Nat.le_of_ble_eq_true rfl) rfl rfl (cat8 rfl) ?_
              refine x_iload_n dX6_sumOf_83 rfl ?_
              refine x_ishr dX6_sumOf_84 ?_
              refine x_iconstv (v := 1) dX6_sumOf_85 (by decide) ?_
              refine x_iand dX6_sumOf_86 ?_
              refine x_iconstv (v := 1) dX6_sumOf_87 (by decide) ?_
              refine x_icmp_ne 95 dX6_sumOf_88 (by decide) (fun c_88 => ?_) (fun c_88 => ?_)
              · refine x_iconstv (v := 0) dX6_sumOf_95 (by decide) ?_
                refine x_goto 115 dX6_sumOf_96 (by decide) ?_
                refine x_istore dX6_sumOf_115 (by decide) rfl ?_
                refine x_iload_n dX6_sumOf_117 rfl ?_
                refine x_iload dX6_sumOf_118 rfl ?_
                refine x_if_eq 127 dX6_sumOf_120 (by decide) (fun c_120 => ?_) (fun c_120 => ?_)
                · refine x_iconstv (v := 0) dX6_sumOf_127 (by decide) ?_
                  refine x_iadd dX6_sumOf_128 ?_
                  refine x_istore_n dX6_sumOf_129 (by decide) rfl ?_
                  refine x_iincv (v := 1) dX6_sumOf_130 rfl (by decide) rfl (by decide) ?_
                  refine x_goto 5 dX6_sumOf_133 (by decide) ?_
                  exact ih (i + 1) _ _ _ _ (by omega) (by omega) (by rw [nI_1]) (by first | (simp_all [sumF, ind, b2i_z, b2i, dl_z]; done) | (simp_all [sumF, ind, b2i_z, b2i, dl_z] <;> grind))
                · exact absurd c_120 (by decide)
              · refine x_iconstv (v := 1) dX6_sumOf_91 (by decide) ?_
                refine x_goto 115 dX6_sumOf_92 (by decide) ?_
                refine x_istore dX6_sumOf_115 (by decide) rfl ?_
                refine x_iload_n dX6_sumOf_117 rfl ?_
                refine x_iload dX6_sumOf_118 rfl ?_
                refine x_if_eq 127 dX6_sumOf_120 (by decide) (fun c_120 => ?_) (fun c_120 => ?_)
                · exact absurd c_120 (by decide)
                · refine x_iconstv (v := 1) dX6_sumOf_123 (by decide) ?_
                  refine x_goto 128 dX6_sumOf_124 (by decide) ?_
                  refine x_iadd dX6_sumOf_128 ?_
                  refine x_istore_n dX6_sumOf_129 (by decide) rfl ?_
                  refine x_iincv (v := 1) dX6_sumOf_130 rfl (by decide) rfl (by decide) ?_
                  refine x_goto 5 dX6_sumOf_133 (by decide) ?_
                  exact ih (i + 1) _ _ _ _ (by omega) (by omega) (by rw [nI_1]) (by first | (simp_all [sumF, ind, b2i_z, b2i, dl_z]; done) | (simp_all [sumF, ind, b2i_z, b2i, dl_z] <;> grind))
          · exact absurd c_46 (by decide)
        · exact absurd c_36 (by decide)
      · refine x_iconstv (v := 1) dX6_sumOf_27 (by decide) ?_
        refine x_goto 32 dX6_sumOf_28 (by decide) ?_
        refine x_istore dX6_sumOf_32 (by decide) rfl ?_
        refine x_iload_n dX6_sumOf_34 rfl ?_
        refine x_iconstv (v := 1) dX6_sumOf_35 (by decide) ?_
        refine x_icmp_ne 44 dX6_sumOf_36 (by decide) (fun c_36 => ?_) (fun c_36 => ?_)
        · refine x_iload_n dX6_sumOf_44 rfl ?_
          refine x_iconstv (v := 2) dX6_sumOf_45 (by decide) ?_
          refine x_icmp_ne 71 dX6_sumOf_46 (by decide) (fun c_46 => ?_) (fun c_46 => ?_)
          · refine x_iload_n dX6_sumOf_71 rfl ?_
            refine x_iconstv (v := 3) dX6_sumOf_72 (by decide) ?_
            refine x_icmp_ne 99 dX6_sumOf_73 (by decide) (fun c_73 => ?_) (fun c_73 => ?_)
            · exact absurd c_73 (by decide)
            · refine x_aload_n dX6_sumOf_76 rfl ?_
              refine x_iload dX6_sumOf_77 rfl ?_
              refine x_iconstv (v := 1) dX6_sumOf_79 (by decide) ?_
              refine y_callV (as := [_, _]) okX6_of lkX6_65 dX6_sumOf_80 rfl (by decide) rfl (((r_of1 (b6 hV hlt)).more (d' := 2) (by omega))) (by omega) rfl (by simp [Value.category]) (Nat.le_of_ble_eq_true rfl) rfl rfl (cat8 rfl) ?_
              refine x_iload_n dX6_sumOf_83 rfl ?_
              refine x_ishr dX6_sumOf_84 ?_
              refine x_iconstv (v := 1) dX6_sumOf_85 (by decide) ?_
              refine x_iand dX6_sumOf_86 ?_
              refine x_iconstv (v := 1) dX6_sumOf_87 (by decide) ?_
              refine x_icmp_ne 95 dX6_sumOf_88 (by decide) (fun c_88 => ?_) (fun c_88 => ?_)
              · refine x_iconstv (v := 0) dX6_sumOf_95 (by decide) ?_
                refine x_goto 115 dX6_sumOf_96 (by decide) ?_
                refine x_istore dX6_sumOf_115 (by decide) rfl ?_
                refine x_iload_n dX6_sumOf_117 rfl ?_
                refine x_iload dX6_sumOf_118 rfl ?_
                refine x_if_eq 127 dX6_sumOf_120 (by decide) (fun c_120 => ?_) (fun c_120 => ?_)
                · refine x_iconstv (v := 0) dX6_sumOf_127 (by decide) ?_
                  refine x_iadd dX6_sumOf_128 ?_
                  refine x_istore_n dX6_sumOf_129 (by decide) rfl ?_
                  refine x_iincv (v := 1) dX6_sumOf_130 rfl (by decide) rfl (by decide) ?_
                  refine x_goto 5 dX6_sumOf_133 (by decide) ?_
                  exact ih (i + 1) _ _ _ _ (by omega) (by omega) (by rw [nI_1]) (by first | (simp_all [sumF, ind, b2i_z, b2i, dl_z]; done) | (simp_all [sumF, ind, b2i_z, b2i, dl_z] <;> grind))
                · exact absurd c_120 (by decide)
              · refine x_iconstv (v := 1) dX6_sumOf_91 (by decide) ?_
                refine x_goto 115 dX6_sumOf_92 (by decide) ?_
                refine x_istore dX6_sumOf_115 (by decide) rfl ?_
                refine x_iload_n dX6_sumOf_117 rfl ?_
                refine x_iload dX6_sumOf_118 rfl ?_
                refine x_if_eq 127 dX6_sumOf_120 (by decide) (fun c_120 => ?_) (fun c_120 => ?_)
                · exact absurd c_120 (by decide)
                · refine x_iconstv (v := 1) dX6_sumOf_123 (by decide) ?_
                  refine x_goto 128 dX6_sumOf_124 (by decide) ?_
                  refine x_iadd dX6_sumOf_128 ?_
                  refine x_istore_n dX6_sumOf_129 (by decide) rfl ?_
                  refine x_iincv (v := 1) dX6_sumOf_130 rfl (by decide) rfl (by decide) ?_
                  refine x_goto 5 dX6_sumOf_133 (by decide) ?_
                  exact ih (i + 1) _ _ _ _ (by omega) (by omega) (by rw [nI_1]) (by first | (simp_all [sumF, ind, b2i_z, b2i, dl_z]; done) | (simp_all [sumF, ind, b2i_z, b2i, dl_z] <;> grind))
          · exact absurd c_46 (by decide)
        · exact absurd c_36 (by decide)
theorem r_sumOf3 {M : Mem} (hV : WF (M 85)) {k : Nat} (hk6 : k < 6) : Y 3 mX6_sumOf 0 (lent 7 [.ref 84, .int (nI k), .int (nI 3)]) [] M (some (.int (sumF (fun t => ind (M 85 (23 + 5 * t) >>> (nI k &&& 31) &&& 1 = 1)) (nT (M 85))))) M := by
  refine x_iconstv (v := 0) dX6_sumOf_0 (by decide) ?_
  refine x_istore_n dX6_sumOf_1 (by decide) rfl ?_
  refine x_iconstv (v := 0) dX6_sumOf_2 (by decide) ?_
  refine x_istore dX6_sumOf_3 (by decide) rfl ?_
  exact r_sumOf3_loop hV hk6 (nT (M 85) + 1) 0 0 0 none none (Nat.zero_le _) (by omega) rfl rfl
theorem r_sumOf4_loop {M : Mem} (hV : WF (M 85)) {k : Nat} (hk6 : k < 6) : ∀ (fu i : Nat) (acc x : Int32) (l5 l6 : Option Value), i ≤ nT (M 85) → nT (M 85) - i < fu → x = nI i → acc = sumF (fun t => ind (M 85 (22 + 5 * t) = nI k)) i → Y 3 mX6_sumOf 5 [some (.ref 84), some (.int (nI k)), some (.int (nI 4)), some (.int acc), some (.int x), l5, l6] [] M (some (.int (sumF (fun t => ind (M 85 (22 + 5 * t) = nI k)) (nT (M 85))))) M := by
  obtain ⟨hn1, hn2⟩ := WF_n hV
  intro fu
  induction fu with
  | zero => intro i acc x l5 l6 h1 h2; omega
  | succ fu ih =>
    intro i acc x l5 l6 h1 h2 hx ha9
    subst hx
    refine x_iload dX6_sumOf_5 rfl ?_
    refine x_aload_n dX6_sumOf_7 rfl ?_
    refine y_getR fkX6_7 dX6_sumOf_8 (by decide) rfl rfl ?_
    refine x_iconstv (v := 1) dX6_sumOf_11 (by decide) ?_
    refine y_ialdn (j := 1) dX6_sumOf_12 (by decide) rfl (by decide) (by decide) ?_
    refine x_icmp_ge 136 dX6_sumOf_13 (by decide) (fun c_13 => ?_) (fun c_13 => ?_)
    · have he := lp_eq hV rfl h1 c_13
      subst he
      refine x_iload_n dX6_sumOf_136 rfl ?_
      exact y_ret dX6_sumOf_137 rfl (rfl) (ha9) (rfl)
    · have hlt := lp_lt hV rfl h1 c_13
      refine x_aload_n dX6_sumOf_16 rfl ?_
      refine x_iload dX6_sumOf_17 rfl ?_
      refine x_iconstv (v := 2) dX6_sumOf_19 (by decide) ?_
      refine y_callV (as := [_, _]) okX6_of lkX6_65 dX6_sumOf_20 rfl (by decide) rfl (((r_of2 (b6 hV hlt)).more (d' := 2) (by omega))) (by omega) rfl (by simp [Value.category]) (Nat.le_of_ble_eq_true rfl) rfl rfl (cat8 rfl) ?_
      refine x_iload_n dX6_sumOf_23 rfl ?_
      refine x_icmp_ne 31 dX6_sumOf_24 (by decide) (fun c_24 => ?_) (fun c_24 => ?_)
      · refine x_iconstv (v := 0) dX6_sumOf_31 (by decide) ?_
        refine x_istore dX6_sumOf_32 (by decide) rfl ?_
        refine x_iload_n dX6_sumOf_34 rfl ?_
        refine x_iconstv (v := 1) dX6_sumOf_35 (by decide) ?_
        refine x_icmp_ne 44 dX6_sumOf_36 (by decide) (fun c_36 => ?_) (fun c_36 => ?_)
        · refine x_iload_n dX6_sumOf_44 rfl ?_
          refine x_iconstv (v := 2) dX6_sumOf_45 (by decide) ?_
          refine x_icmp_ne 71 dX6_sumOf_46 (by decide) (fun c_46 => ?_) (fun c_46 => ?_)
          · refine x_iload_n dX6_sumOf_71 rfl ?_
            refine x_iconstv (v := 3) dX6_sumOf_72 (by decide) ?_
            refine x_icmp_ne 99 dX6_sumOf_73 (by decide) (fun c_73 => ?_) (fun c_73 => ?_)
            · refine x_aload_n dX6_sumOf_99 rfl ?_
              refine x_iload dX6_sumOf_100 rfl ?_
              refine x_iconstv (v := 0) dX6_sumOf_102 (by decide) ?_
              refine y_callV (as := [_, _]) okX6_of lkX6_65 dX6_sumOf_103 rfl (by decide) rfl (((r_of0 (b6 hV hlt)).more (d' := 2) (by omega))) (by omega) rfl (by simp [Value.category]) (Nat.le_of_ble_eq_true rfl) rfl rfl (cat8 rfl) ?_
              refine x_iload_n dX6_sumOf_106 rfl ?_
              refine x_icmp_ne 114 dX6_sumOf_107 (by decide) (fun c_107 => ?_) (fun c_107 => ?_)
              · refine x_iconstv (v := 0) dX6_sumOf_114 (by decide) ?_
                refine x_istore dX6_sumOf_115 (by decide) rfl ?_
                refine x_iload_n dX6_sumOf_117 rfl ?_
                refine x_iload dX6_sumOf_118 rfl ?_
                refine x_if_eq 127 dX6_sumOf_120 (by decide) (fun c_120 => ?_) (fun c_120 => ?_)
                · refine x_iconstv (v := 0) dX6_sumOf_127 (by decide) ?_
                  refine x_iadd dX6_sumOf_128 ?_
                  refine x_istore_n dX6_sumOf_129 (by decide) rfl ?_
                  refine x_iincv (v := 1) dX6_sumOf_130 rfl (by decide) rfl (by decide) ?_
                  refine x_goto 5 dX6_sumOf_133 (by decide) ?_
                  exact ih (i + 1) _ _ _ _ (by omega) (by omega) (by rw [nI_1]) (by first | (simp_all [sumF, ind, b2i_z, b2i, dl_z]; done) | (simp_all [sumF, ind, b2i_z, b2i, dl_z] <;> grind))
                · exact absurd c_120 (by decide)
              · refine x_iconstv (v := 1) dX6_sumOf_110 (by decide) ?_
                refine x_goto 115 dX6_sumOf_111 (by decide) ?_
                refine x_istore dX6_sumOf_115 (by decide) rfl ?_
                refine x_iload_n dX6_sumOf_117 rfl ?_
                refine x_iload dX6_sumOf_118 rfl ?_
                refine x_if_eq 127 dX6_sumOf_120 (by decide) (fun c_120 => ?_) (fun c_120 => ?_)
                · exact absurd c_120 (by decide)
                · refine x_iconstv (v := 1) dX6_sumOf_123 (by decide) ?_
                  refine x_goto 128 dX6_sumOf_124 (by decide) ?_
                  refine x_iadd dX6_sumOf_128 ?_
                  refine x_istore_n dX6_sumOf_129 (by decide) rfl ?_
                  refine x_iincv (v := 1) dX6_sumOf_130 rfl (by decide) rfl (by decide) ?_
                  refine x_goto 5 dX6_sumOf_133 (by decide) ?_
                  exact ih (i + 1) _ _ _ _ (by omega) (by omega) (by rw [nI_1]) (by first | (simp_all [sumF, ind, b2i_z, b2i, dl_z]; done) | (simp_all [sumF, ind, b2i_z, b2i, dl_z] <;> grind))
            · exact absurd c_73 (by decide)
          · exact absurd c_46 (by decide)
        · exact absurd c_36 (by decide)
      · refine x_iconstv (v := 1) dX6_sumOf_27 (by decide) ?_
        refine x_goto 32 dX6_sumOf_28 (by decide) ?_
        refine x_istore dX6_sumOf_32 (by decide) rfl ?_
        refine x_iload_n dX6_sumOf_34 rfl ?_
        refine x_iconstv (v := 1) dX6_sumOf_35 (by decide) ?_
        refine x_icmp_ne 44 dX6_sumOf_36 (by decide) (fun c_36 => ?_) (fun c_36 => ?_)
        · refine x_iload_n dX6_sumOf_44 rfl ?_
          refine x_iconstv (v := 2) dX6_sumOf_45 (by decide) ?_
          refine x_icmp_ne 71 dX6_sumOf_46 (by decide) (fun c_46 => ?_) (fun c_46 => ?_)
          · refine x_iload_n dX6_sumOf_71 rfl ?_
            refine x_iconstv (v := 3) dX6_sumOf_72 (by decide) ?_
            refine x_icmp_ne 99 dX6_sumOf_73 (by decide) (fun c_73 => ?_) (fun c_73 => ?_)
            · refine x_aload_n dX6_sumOf_99 rfl ?_
              refine x_iload dX6_sumOf_100 rfl ?_
              refine x_iconstv (v := 0) dX6_sumOf_102 (by decide) ?_
              refine y_callV (as := [_, _]) okX6_of lkX6_65 dX6_sumOf_103 rfl (by decide) rfl (((r_of0 (b6 hV hlt)).more (d' := 2) (by omega))) (by omega) rfl (by simp [Value.category]) (Nat.le_of_ble_eq_true rfl) rfl rfl (cat8 rfl) ?_
              refine x_iload_n dX6_sumOf_106 rfl ?_
              refine x_icmp_ne 114 dX6_sumOf_107 (by decide) (fun c_107 => ?_) (fun c_107 => ?_)
              · refine x_iconstv (v := 0) dX6_sumOf_114 (by decide) ?_
                refine x_istore dX6_sumOf_115 (by decide) rfl ?_
                refine x_iload_n dX6_sumOf_117 rfl ?_
                refine x_iload dX6_sumOf_118 rfl ?_
                refine x_if_eq 127 dX6_sumOf_120 (by decide) (fun c_120 => ?_) (fun c_120 => ?_)
                · refine x_iconstv (v := 0) dX6_sumOf_127 (by decide) ?_
                  refine x_iadd dX6_sumOf_128 ?_
                  refine x_istore_n dX6_sumOf_129 (by decide) rfl ?_
                  refine x_iincv (v := 1) dX6_sumOf_130 rfl (by decide) rfl (by decide) ?_
                  refine x_goto 5 dX6_sumOf_133 (by decide) ?_
                  exact ih (i + 1) _ _ _ _ (by omega) (by omega) (by rw [nI_1]) (by first | (simp_all [sumF, ind, b2i_z, b2i, dl_z]; done) | (simp_all [sumF, ind, b2i_z, b2i, dl_z] <;> grind))
                · exact absurd c_120 (by decide)
              · refine x_iconstv (v := 1) dX6_sumOf_110 (by decide) ?_
                refine x_goto 115 dX6_sumOf_111 (by decide) ?_
                refine x_istore dX6_sumOf_115 (by decide) rfl ?_
                refine x_iload_n dX6_sumOf_117 rfl ?_
                refine x_iload dX6_sumOf_118 rfl ?_
                refine x_if_eq 127 dX6_sumOf_120 (by decide) (fun c_120 => ?_) (fun c_120 => ?_)
                · exact absurd c_120 (by decide)
                · refine x_iconstv (v := 1) dX6_sumOf_123 (by decide) ?_
                  refine x_goto 128 dX6_sumOf_124 (by decide) ?_
                  refine x_iadd dX6_sumOf_128 ?_
                  refine x_istore_n dX6_sumOf_129 (by decide) rfl ?_
                  refine x_iincv (v := 1) dX6_sumOf_130 rfl (by decide) rfl (by decide) ?_
                  refine x_goto 5 dX6_sumOf_133 (by decide) ?_
                  exact ih (i + 1) _ _ _ _ (by omega) (by omega) (by rw [nI_1]) (by first | (simp_all [sumF, ind, b2i_z, b2i, dl_z]; done) | (simp_all [sumF, ind, b2i_z, b2i, dl_z] <;> grind))
            · exact absurd c_73 (by decide)
          · exact absurd c_46 (by decide)
        · exact absurd c_36 (by decide)
theorem r_sumOf4 {M : Mem} (hV : WF (M 85)) {k : Nat} (hk6 : k < 6) : Y 3 mX6_sumOf 0 (lent 7 [.ref 84, .int (nI k), .int (nI 4)]) [] M (some (.int (sumF (fun t => ind (M 85 (22 + 5 * t) = nI k)) (nT (M 85))))) M := by
  refine x_iconstv (v := 0) dX6_sumOf_0 (by decide) ?_
  refine x_istore_n dX6_sumOf_1 (by decide) rfl ?_
  refine x_iconstv (v := 0) dX6_sumOf_2 (by decide) ?_
  refine x_istore dX6_sumOf_3 (by decide) rfl ?_
  exact r_sumOf4_loop hV hk6 (nT (M 85) + 1) 0 0 0 none none (Nat.zero_le _) (by omega) rfl rfl
theorem r_kind_0 {M : Mem} (hV : WF (M 85)) {k : Nat} (hk : k < 6) : Y 4 mX6_kind 0 (lent 3 [.ref 84, .int (nI k), .int (nI 0)]) [] M (some (.int (M 85 (10 + 2 * k)))) M := by
  have hi := r_isKind (M := M) (k := nI k)
  rw [in_bitl.mpr ⟨nI_pos' (by omega), show nI k < 6 from nI_lt (a := k) (b := 6) hk (by decide)⟩] at hi
  have hj := r_in (M := M) (v := nI 0) (a := 1) (b := 4)
  rw [show (decide ((1 : Int32) ≤ nI 0) && decide (nI 0 ≤ 4)) = false from by decide] at hj
  skip
  refine x_iload_n dX6_kind_0 rfl ?_
  refine y_callS (as := [_]) okX6_isKind lkX6_105 dX6_kind_1 rfl ((hi.more (d' := 3) (by omega))) (by omega) rfl (by simp [Value.category]) (Nat.le_of_ble_eq_true rfl) (cat8 rfl) ?_
  refine x_if_ne 9 dX6_kind_4 (by decide) (fun c_4 => ?_) (fun c_4 => ?_)
  · refine x_iload_n dX6_kind_9 rfl ?_
    refine x_if_ne 26 dX6_kind_10 (by decide) (fun c_10 => ?_) (fun c_10 => ?_)
    · exact absurd c_10 (by decide)
    · refine x_aload_n dX6_kind_13 rfl ?_
      refine y_getR fkX6_7 dX6_kind_14 (by decide) rfl rfl ?_
      refine x_iload_n dX6_kind_17 rfl ?_
      refine x_iconstv (v := 0) dX6_kind_18 (by decide) ?_
      refine y_callS (as := [_, _]) okX6_ofKind lkX6_47 dX6_kind_19 rfl ((r_ofKind0k.more (d' := 3) (by omega))) (by omega) rfl (by simp [Value.category]) (Nat.le_of_ble_eq_true rfl) (cat8 rfl) ?_
      refine y_ialdn (j := 10 + 2 * k) dX6_kind_22 (by decide) rfl (ixN (by omega)) (by omega) ?_
      refine x_goto 63 dX6_kind_23 (by decide) ?_
      exact y_ret dX6_kind_63 rfl (rfl) (rfl) (rfl)
  · exact absurd c_4 (by decide)
theorem r_kind_1 {M : Mem} (hV : WF (M 85)) {k : Nat} (hk : k < 6) : Y 4 mX6_kind 0 (lent 3 [.ref 84, .int (nI k), .int (nI 1)]) [] M (some (.int (sumF (fun t => ind (M 85 (24 + 5 * t) = nI k)) (nT (M 85))))) M := by
  have hi := r_isKind (M := M) (k := nI k)
  rw [in_bitl.mpr ⟨nI_pos' (by omega), show nI k < 6 from nI_lt (a := k) (b := 6) hk (by decide)⟩] at hi
  have hj := r_in (M := M) (v := nI 1) (a := 1) (b := 4)
  rw [show (decide ((1 : Int32) ≤ nI 1) && decide (nI 1 ≤ 4)) = true from by decide] at hj
  skip
  refine x_iload_n dX6_kind_0 rfl ?_
  refine y_callS (as := [_]) okX6_isKind lkX6_105 dX6_kind_1 rfl ((hi.more (d' := 3) (by omega))) (by omega) rfl (by simp [Value.category]) (Nat.le_of_ble_eq_true rfl) (cat8 rfl) ?_
  refine x_if_ne 9 dX6_kind_4 (by decide) (fun c_4 => ?_) (fun c_4 => ?_)
  · refine x_iload_n dX6_kind_9 rfl ?_
    refine x_if_ne 26 dX6_kind_10 (by decide) (fun c_10 => ?_) (fun c_10 => ?_)
    · refine x_iload_n dX6_kind_26 rfl ?_
      refine x_iconstv (v := 1) dX6_kind_27 (by decide) ?_
      refine x_iconstv (v := 4) dX6_kind_28 (by decide) ?_
      refine y_callS (as := [_, _, _]) okX6_in lkX6_51 dX6_kind_29 rfl ((hj.more (d' := 3) (by omega))) (by omega) rfl (by simp [Value.category]) (Nat.le_of_ble_eq_true rfl) (cat8 rfl) ?_
      refine x_if_eq 44 dX6_kind_32 (by decide) (fun c_32 => ?_) (fun c_32 => ?_)
      · exact absurd c_32 (by decide)
      · refine x_aload_n dX6_kind_35 rfl ?_
        refine x_iload_n dX6_kind_36 rfl ?_
        refine x_iload_n dX6_kind_37 rfl ?_
        refine y_callV (as := [_, _]) okX6_sumOf lkX6_163 dX6_kind_38 rfl (by decide) rfl (r_sumOf1 hV hk) (by omega) rfl (by simp [Value.category]) (Nat.le_of_ble_eq_true rfl) rfl rfl (cat8 rfl) ?_
        refine x_goto 63 dX6_kind_41 (by decide) ?_
        exact y_ret dX6_kind_63 rfl (rfl) (rfl) (rfl)
    · exact absurd c_10 (by decide)
  · exact absurd c_4 (by decide)
theorem r_kind_2 {M : Mem} (hV : WF (M 85)) {k : Nat} (hk : k < 6) : Y 4 mX6_kind 0 (lent 3 [.ref 84, .int (nI k), .int (nI 2)]) [] M (some (.int (sumF (fun t => ind (M 85 (24 + 5 * t) = nI k ∧ ¬ 0 < dli (M 85) t)) (nT (M 85))))) M := by
  have hi := r_isKind (M := M) (k := nI k)
  rw [in_bitl.mpr ⟨nI_pos' (by omega), show nI k < 6 from nI_lt (a := k) (b := 6) hk (by decide)⟩] at hi
  have hj := r_in (M := M) (v := nI 2) (a := 1) (b := 4)
  rw [show (decide ((1 : Int32) ≤ nI 2) && decide (nI 2 ≤ 4)) = true from by decide] at hj
  skip
  refine x_iload_n dX6_kind_0 rfl ?_
  refine y_callS (as := [_]) okX6_isKind lkX6_105 dX6_kind_1 rfl ((hi.more (d' := 3) (by omega))) (by omega) rfl (by simp [Value.category]) (Nat.le_of_ble_eq_true rfl) (cat8 rfl) ?_
  refine x_if_ne 9 dX6_kind_4 (by decide) (fun c_4 => ?_) (fun c_4 => ?_)
  · refine x_iload_n dX6_kind_9 rfl ?_
    refine x_if_ne 26 dX6_kind_10 (by decide) (fun c_10 => ?_) (fun c_10 => ?_)
    · refine x_iload_n dX6_kind_26 rfl ?_
      refine x_iconstv (v := 1) dX6_kind_27 (by decide) ?_
      refine x_iconstv (v := 4) dX6_kind_28 (by decide) ?_
      refine y_callS (as := [_, _, _]) okX6_in lkX6_51 dX6_kind_29 rfl ((hj.more (d' := 3) (by omega))) (by omega) rfl (by simp [Value.category]) (Nat.le_of_ble_eq_true rfl) (cat8 rfl) ?_
      refine x_if_eq 44 dX6_kind_32 (by decide) (fun c_32 => ?_) (fun c_32 => ?_)
      · exact absurd c_32 (by decide)
      · refine x_aload_n dX6_kind_35 rfl ?_
        refine x_iload_n dX6_kind_36 rfl ?_
        refine x_iload_n dX6_kind_37 rfl ?_
        refine y_callV (as := [_, _]) okX6_sumOf lkX6_163 dX6_kind_38 rfl (by decide) rfl (r_sumOf2 hV hk) (by omega) rfl (by simp [Value.category]) (Nat.le_of_ble_eq_true rfl) rfl rfl (cat8 rfl) ?_
        refine x_goto 63 dX6_kind_41 (by decide) ?_
        exact y_ret dX6_kind_63 rfl (rfl) (rfl) (rfl)
    · exact absurd c_10 (by decide)
  · exact absurd c_4 (by decide)
theorem r_kind_3 {M : Mem} (hV : WF (M 85)) {k : Nat} (hk : k < 6) : Y 4 mX6_kind 0 (lent 3 [.ref 84, .int (nI k), .int (nI 3)]) [] M (some (.int (sumF (fun t => ind (M 85 (23 + 5 * t) >>> (nI k &&& 31) &&& 1 = 1)) (nT (M 85))))) M := by
  have hi := r_isKind (M := M) (k := nI k)
  rw [in_bitl.mpr ⟨nI_pos' (by omega), show nI k < 6 from nI_lt (a := k) (b := 6) hk (by decide)⟩] at hi
  have hj := r_in (M := M) (v := nI 3) (a := 1) (b := 4)
  rw [show (decide ((1 : Int32) ≤ nI 3) && decide (nI 3 ≤ 4)) = true from by decide] at hj
  skip
  refine x_iload_n dX6_kind_0 rfl ?_
  refine y_callS (as := [_]) okX6_isKind lkX6_105 dX6_kind_1 rfl ((hi.more (d' := 3) (by omega))) (by omega) rfl (by simp [Value.category]) (Nat.le_of_ble_eq_true rfl) (cat8 rfl) ?_
  refine x_if_ne 9 dX6_kind_4 (by decide) (fun c_4 => ?_) (fun c_4 => ?_)
  · refine x_iload_n dX6_kind_9 rfl ?_
    refine x_if_ne 26 dX6_kind_10 (by decide) (fun c_10 => ?_) (fun c_10 => ?_)
    · refine x_iload_n dX6_kind_26 rfl ?_
      refine x_iconstv (v := 1) dX6_kind_27 (by decide) ?_
      refine x_iconstv (v := 4) dX6_kind_28 (by decide) ?_
      refine y_callS (as := [_, _, _]) okX6_in lkX6_51 dX6_kind_29 rfl ((hj.more (d' := 3) (by omega))) (by omega) rfl (by simp [Value.category]) (Nat.le_of_ble_eq_true rfl) (cat8 rfl) ?_
      refine x_if_eq 44 dX6_kind_32 (by decide) (fun c_32 => ?_) (fun c_32 => ?_)
      · exact absurd c_32 (by decide)
      · refine x_aload_n dX6_kind_35 rfl ?_
        refine x_iload_n dX6_kind_36 rfl ?_
        refine x_iload_n dX6_kind_37 rfl ?_
        refine y_callV (as := [_, _]) okX6_sumOf lkX6_163 dX6_kind_38 rfl (by decide) rfl (r_sumOf3 hV hk) (by omega) rfl (by simp [Value.category]) (Nat.le_of_ble_eq_true rfl) rfl rfl (cat8 rfl) ?_
        refine x_goto 63 dX6_kind_41 (by decide) ?_
        exact y_ret dX6_kind_63 rfl (rfl) (rfl) (rfl)
    · exact absurd c_10 (by decide)
  · exact absurd c_4 (by decide)
theorem r_kind_4 {M : Mem} (hV : WF (M 85)) {k : Nat} (hk : k < 6) : Y 4 mX6_kind 0 (lent 3 [.ref 84, .int (nI k), .int (nI 4)]) [] M (some (.int (sumF (fun t => ind (M 85 (22 + 5 * t) = nI k)) (nT (M 85))))) M := by
  have hi := r_isKind (M := M) (k := nI k)
  rw [in_bitl.mpr ⟨nI_pos' (by omega), show nI k < 6 from nI_lt (a := k) (b := 6) hk (by decide)⟩] at hi
  have hj := r_in (M := M) (v := nI 4) (a := 1) (b := 4)
  rw [show (decide ((1 : Int32) ≤ nI 4) && decide (nI 4 ≤ 4)) = true from by decide] at hj
  skip
  refine x_iload_n dX6_kind_0 rfl ?_
  refine y_callS (as := [_]) okX6_isKind lkX6_105 dX6_kind_1 rfl ((hi.more (d' := 3) (by omega))) (by omega) rfl (by simp [Value.category]) (Nat.le_of_ble_eq_true rfl) (cat8 rfl) ?_
  refine x_if_ne 9 dX6_kind_4 (by decide) (fun c_4 => ?_) (fun c_4 => ?_)
  · refine x_iload_n dX6_kind_9 rfl ?_
    refine x_if_ne 26 dX6_kind_10 (by decide) (fun c_10 => ?_) (fun c_10 => ?_)
    · refine x_iload_n dX6_kind_26 rfl ?_
      refine x_iconstv (v := 1) dX6_kind_27 (by decide) ?_
      refine x_iconstv (v := 4) dX6_kind_28 (by decide) ?_
      refine y_callS (as := [_, _, _]) okX6_in lkX6_51 dX6_kind_29 rfl ((hj.more (d' := 3) (by omega))) (by omega) rfl (by simp [Value.category]) (Nat.le_of_ble_eq_true rfl) (cat8 rfl) ?_
      refine x_if_eq 44 dX6_kind_32 (by decide) (fun c_32 => ?_) (fun c_32 => ?_)
      · exact absurd c_32 (by decide)
      · refine x_aload_n dX6_kind_35 rfl ?_
        refine x_iload_n dX6_kind_36 rfl ?_
        refine x_iload_n dX6_kind_37 rfl ?_
        refine y_callV (as := [_, _]) okX6_sumOf lkX6_163 dX6_kind_38 rfl (by decide) rfl (r_sumOf4 hV hk) (by omega) rfl (by simp [Value.category]) (Nat.le_of_ble_eq_true rfl) rfl rfl (cat8 rfl) ?_
        refine x_goto 63 dX6_kind_41 (by decide) ?_
        exact y_ret dX6_kind_63 rfl (rfl) (rfl) (rfl)
    · exact absurd c_10 (by decide)
  · exact absurd c_4 (by decide)
theorem r_kind_5 {M : Mem} (hV : WF (M 85)) {k : Nat} (hk : k < 6) : Y 4 mX6_kind 0 (lent 3 [.ref 84, .int (nI k), .int (nI 5)]) [] M (some (.int (M 85 (11 + 2 * k)))) M := by
  have hi := r_isKind (M := M) (k := nI k)
  rw [in_bitl.mpr ⟨nI_pos' (by omega), show nI k < 6 from nI_lt (a := k) (b := 6) hk (by decide)⟩] at hi
  have hj := r_in (M := M) (v := nI 5) (a := 1) (b := 4)
  rw [show (decide ((1 : Int32) ≤ nI 5) && decide (nI 5 ≤ 4)) = false from by decide] at hj
  skip
  refine x_iload_n dX6_kind_0 rfl ?_
  refine y_callS (as := [_]) okX6_isKind lkX6_105 dX6_kind_1 rfl ((hi.more (d' := 3) (by omega))) (by omega) rfl (by simp [Value.category]) (Nat.le_of_ble_eq_true rfl) (cat8 rfl) ?_
  refine x_if_ne 9 dX6_kind_4 (by decide) (fun c_4 => ?_) (fun c_4 => ?_)
  · refine x_iload_n dX6_kind_9 rfl ?_
    refine x_if_ne 26 dX6_kind_10 (by decide) (fun c_10 => ?_) (fun c_10 => ?_)
    · refine x_iload_n dX6_kind_26 rfl ?_
      refine x_iconstv (v := 1) dX6_kind_27 (by decide) ?_
      refine x_iconstv (v := 4) dX6_kind_28 (by decide) ?_
      refine y_callS (as := [_, _, _]) okX6_in lkX6_51 dX6_kind_29 rfl ((hj.more (d' := 3) (by omega))) (by omega) rfl (by simp [Value.category]) (Nat.le_of_ble_eq_true rfl) (cat8 rfl) ?_
      refine x_if_eq 44 dX6_kind_32 (by decide) (fun c_32 => ?_) (fun c_32 => ?_)
      · refine x_iload_n dX6_kind_44 rfl ?_
        refine x_iconstv (v := 5) dX6_kind_45 (by decide) ?_
        refine x_icmp_ne 62 dX6_kind_46 (by decide) (fun c_46 => ?_) (fun c_46 => ?_)
        · exact absurd c_46 (by decide)
        · refine x_aload_n dX6_kind_49 rfl ?_
          refine y_getR fkX6_7 dX6_kind_50 (by decide) rfl rfl ?_
          refine x_iload_n dX6_kind_53 rfl ?_
          refine x_iconstv (v := 1) dX6_kind_54 (by decide) ?_
          refine y_callS (as := [_, _]) okX6_ofKind lkX6_47 dX6_kind_55 rfl ((r_ofKind1k.more (d' := 3) (by omega))) (by omega) rfl (by simp [Value.category]) (Nat.le_of_ble_eq_true rfl) (cat8 rfl) ?_
          refine y_ialdn (j := 11 + 2 * k) dX6_kind_58 (by decide) rfl (ixN (by omega)) (by omega) ?_
          refine x_goto 63 dX6_kind_59 (by decide) ?_
          exact y_ret dX6_kind_63 rfl (rfl) (rfl) (rfl)
      · exact absurd rfl c_32
    · exact absurd c_10 (by decide)
  · exact absurd c_4 (by decide)
theorem r_kind_d {M : Mem} (hV : WF (M 85)) {k : Nat} (hk : k < 6) {x : Int32} (h0 : ¬ x = 0) (h1 : ¬ (1 ≤ x ∧ x ≤ 4)) (h5 : ¬ x = 5) : Y 4 mX6_kind 0 (lent 3 [.ref 84, .int (nI k), .int x]) [] M (some (.int (-1))) M := by
  have hi := r_isKind (M := M) (k := nI k)
  rw [in_bitl.mpr ⟨nI_pos' (by omega), show nI k < 6 from nI_lt (a := k) (b := 6) hk (by decide)⟩] at hi
  skip
  refine x_iload_n dX6_kind_0 rfl ?_
  refine y_callS (as := [_]) okX6_isKind lkX6_105 dX6_kind_1 rfl ((hi.more (d' := 3) (by omega))) (by omega) rfl (by simp [Value.category]) (Nat.le_of_ble_eq_true rfl) (cat8 rfl) ?_
  refine x_if_ne 9 dX6_kind_4 (by decide) (fun c_4 => ?_) (fun c_4 => ?_)
  · refine x_iload_n dX6_kind_9 rfl ?_
    refine x_if_ne 26 dX6_kind_10 (by decide) (fun c_10 => ?_) (fun c_10 => ?_)
    · refine x_iload_n dX6_kind_26 rfl ?_
      refine x_iconstv (v := 1) dX6_kind_27 (by decide) ?_
      refine x_iconstv (v := 4) dX6_kind_28 (by decide) ?_
      refine y_callS (as := [_, _, _]) okX6_in lkX6_51 dX6_kind_29 rfl ((r_in.more (d' := 3) (by omega))) (by omega) rfl (by simp [Value.category]) (Nat.le_of_ble_eq_true rfl) (cat8 rfl) ?_
      refine x_if_eq 44 dX6_kind_32 (by decide) (fun c_32 => ?_) (fun c_32 => ?_)
      · refine x_iload_n dX6_kind_44 rfl ?_
        refine x_iconstv (v := 5) dX6_kind_45 (by decide) ?_
        refine x_icmp_ne 62 dX6_kind_46 (by decide) (fun c_46 => ?_) (fun c_46 => ?_)
        · refine x_iconstv (v := -1) dX6_kind_62 (by decide) ?_
          exact y_ret dX6_kind_63 rfl (rfl) (rfl) (rfl)
        · exact absurd c_46 (fun q => h5 q)
      · exact absurd (in_bits.mp (b2i_nz c_32)) h1
    · exact absurd c_10 (fun q => h0 q)
  · exact absurd c_4 (by decide)
theorem r_kind_n {M : Mem} (hV : WF (M 85)) {k x : Int32} (hx : ¬ (0 ≤ k ∧ k < 6)) : Y 4 mX6_kind 0 (lent 3 [.ref 84, .int k, .int x]) [] M (some (.int (-1))) M := by
  skip
  refine x_iload_n dX6_kind_0 rfl ?_
  refine y_callS (as := [_]) okX6_isKind lkX6_105 dX6_kind_1 rfl ((r_isKind.more (d' := 3) (by omega))) (by omega) rfl (by simp [Value.category]) (Nat.le_of_ble_eq_true rfl) (cat8 rfl) ?_
  refine x_if_ne 9 dX6_kind_4 (by decide) (fun c_4 => ?_) (fun c_4 => ?_)
  · exact absurd (in_bitl.mp (b2i_nz c_4)) hx
  · refine x_iconstv (v := -1) dX6_kind_7 (by decide) ?_
    exact y_ret dX6_kind_8 rfl (rfl) (rfl) (rfl)
