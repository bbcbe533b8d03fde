theorem y_can1 {M : Mem} {V : Row} (hR : RM M 1 V) (hV : WF V) {a b : Nat} (ha : a < nT V) (hb : b < nT V) (hab : bothB V (nI a) (nI b) = true) : Y 6 mX5_can 0 (lent 3 [.ref 0, .int (nI a), .int (nI b)]) [] M (some (.int (b2i (canV V a b)))) M := by
  have hh := y_hasBoth mk1 hR hV (a := nI a) (b := nI b)
  rw [hab] at hh
  skip
  refine x_aload_n dX5_can_0 rfl ?_
  refine y_getR fkX5_10 dX5_can_1 (by decide) rfl rfl ?_
  refine x_iload_n dX5_can_4 rfl ?_
  refine x_iload_n dX5_can_5 rfl ?_
  refine y_callV (as := [_, _]) okX2_hasBoth lkX5_98 dX5_can_6 rfl (by decide) rfl ((hh.more (d' := 5) (by omega))) (by omega) rfl (by simp [Value.category]) (Nat.le_of_ble_eq_true rfl) rfl rfl (cat8 rfl) ?_
  refine x_if_ne 14 dX5_can_9 (by decide) (fun c_9 => ?_) (fun c_9 => ?_)
  · refine x_aload_n dX5_can_14 rfl ?_
    refine y_getR fkX5_10 dX5_can_15 (by decide) rfl rfl ?_
    refine x_iload_n dX5_can_18 rfl ?_
    refine x_iload_n dX5_can_19 rfl ?_
    refine y_callV (as := [_, _]) okX2_canTake lkX5_182 dX5_can_20 rfl (by decide) rfl (y_canTake mk1 hR hV ha hb) (by omega) rfl (by simp [Value.category]) (Nat.le_of_ble_eq_true rfl) rfl rfl (cat8 rfl) ?_
    refine x_if_eq 30 dX5_can_23 (by decide) (fun c_23 => ?_) (fun c_23 => ?_)
    · refine x_iconstv (v := 0) dX5_can_30 (by decide) ?_
      exact y_ret dX5_can_31 rfl (rfl) (c_23.symm) (rfl)
    · refine x_iconstv (v := 1) dX5_can_26 (by decide) ?_
      refine x_goto 31 dX5_can_27 (by decide) ?_
      exact y_ret dX5_can_31 rfl (rfl) ((b2i_T (b2i_nz c_23)).symm) (rfl)
  · exact absurd c_9 (by decide)
theorem y_can0 {M : Mem} {V : Row} (hR : RM M 1 V) (hV : WF V) {a b : Int32} (hab : bothB V a b = false) : Y 6 mX5_can 0 (lent 3 [.ref 0, .int a, .int b]) [] M (some (.int (-1))) M := by
  have hh := y_hasBoth mk1 hR hV (a := a) (b := b)
  rw [hab] at hh
  skip
  refine x_aload_n dX5_can_0 rfl ?_
  refine y_getR fkX5_10 dX5_can_1 (by decide) rfl rfl ?_
  refine x_iload_n dX5_can_4 rfl ?_
  refine x_iload_n dX5_can_5 rfl ?_
  refine y_callV (as := [_, _]) okX2_hasBoth lkX5_98 dX5_can_6 rfl (by decide) rfl ((hh.more (d' := 5) (by omega))) (by omega) rfl (by simp [Value.category]) (Nat.le_of_ble_eq_true rfl) rfl rfl (cat8 rfl) ?_
  refine x_if_ne 14 dX5_can_9 (by decide) (fun c_9 => ?_) (fun c_9 => ?_)
  · exact absurd c_9 (by decide)
  · refine x_iconstv (v := -1) dX5_can_12 (by decide) ?_
    exact y_ret dX5_can_13 rfl (rfl) (rfl) (rfl)
theorem y_whyNot1 {M : Mem} {V : Row} (hR : RM M 1 V) (hV : WF V) {a b : Nat} (ha : a < nT V) (hb : b < nT V) (hab : bothB V (nI a) (nI b) = true) : Y 5 mX5_whyNot 0 (lent 3 [.ref 0, .int (nI a), .int (nI b)]) [] M (some (.int (rsn V a b))) M := by
  have hh := y_hasBoth mk1 hR hV (a := nI a) (b := nI b)
  rw [hab] at hh
  skip
  refine x_aload_n dX5_whyNot_0 rfl ?_
  refine y_getR fkX5_10 dX5_whyNot_1 (by decide) rfl rfl ?_
  refine x_iload_n dX5_whyNot_4 rfl ?_
  refine x_iload_n dX5_whyNot_5 rfl ?_
  refine y_callV (as := [_, _]) okX2_hasBoth lkX5_98 dX5_whyNot_6 rfl (by decide) rfl ((hh.more (d' := 4) (by omega))) (by omega) rfl (by simp [Value.category]) (Nat.le_of_ble_eq_true rfl) rfl rfl (cat8 rfl) ?_
  refine x_if_eq 24 dX5_whyNot_9 (by decide) (fun c_9 => ?_) (fun c_9 => ?_)
  · exact absurd c_9 (by decide)
  · refine x_aload_n dX5_whyNot_12 rfl ?_
    refine y_getR fkX5_10 dX5_whyNot_13 (by decide) rfl rfl ?_
    refine x_iload_n dX5_whyNot_16 rfl ?_
    refine x_iload_n dX5_whyNot_17 rfl ?_
    refine y_callV (as := [_, _]) okX2_refusal lkX5_185 dX5_whyNot_18 rfl (by decide) rfl (y_refusal mk1 hR hV ha hb) (by omega) rfl (by simp [Value.category]) (Nat.le_of_ble_eq_true rfl) rfl rfl (cat8 rfl) ?_
    refine x_goto 25 dX5_whyNot_21 (by decide) ?_
    exact y_ret dX5_whyNot_25 rfl (rfl) (rfl) (rfl)
theorem y_whyNot0 {M : Mem} {V : Row} (hR : RM M 1 V) (hV : WF V) {a b : Int32} (hab : bothB V a b = false) : Y 5 mX5_whyNot 0 (lent 3 [.ref 0, .int a, .int b]) [] M (some (.int (-1))) M := by
  have hh := y_hasBoth mk1 hR hV (a := a) (b := b)
  rw [hab] at hh
  skip
  refine x_aload_n dX5_whyNot_0 rfl ?_
  refine y_getR fkX5_10 dX5_whyNot_1 (by decide) rfl rfl ?_
  refine x_iload_n dX5_whyNot_4 rfl ?_
  refine x_iload_n dX5_whyNot_5 rfl ?_
  refine y_callV (as := [_, _]) okX2_hasBoth lkX5_98 dX5_whyNot_6 rfl (by decide) rfl ((hh.more (d' := 4) (by omega))) (by omega) rfl (by simp [Value.category]) (Nat.le_of_ble_eq_true rfl) rfl rfl (cat8 rfl) ?_
  refine x_if_eq 24 dX5_whyNot_9 (by decide) (fun c_9 => ?_) (fun c_9 => ?_)
  · refine x_iconstv (v := -1) dX5_whyNot_24 (by decide) ?_
    exact y_ret dX5_whyNot_25 rfl (rfl) (rfl) (rfl)
  · exact absurd rfl c_9
theorem y_kind_0 {M : Mem} {V : Row} (hR : RM M 1 V) (hV : WF V) {k : Nat} (hk : k < 6) : Y 5 mX5_kind 0 (lent 3 [.ref 0, .int (nI k), .int (nI 0)]) [] M (some (.int (V (10 + 2 * k)))) M := by
  have hi := y_isKindT (M := M) (vp_in_nI (n := k) (N := 6) hk (by decide))
  skip
  refine x_iload_n dX5_kind_0 rfl ?_
  refine y_callS (as := [_]) okX5_isKind lkX5_54 dX5_kind_1 rfl ((hi.more (d' := 4) (by omega))) (by omega) rfl (by simp [Value.category]) (Nat.le_of_ble_eq_true rfl) (cat8 rfl) ?_
  refine x_if_ne 9 dX5_kind_4 (by decide) (fun c_4 => ?_) (fun c_4 => ?_)
  · refine x_iload_n dX5_kind_9 rfl ?_
    refine x_tableIn (off := 38) 48 dX5_kind_10 (by decide) (by decide) (by decide) (by decide) ?_
    refine x_aload_n dX5_kind_48 rfl ?_
    refine y_getR fkX5_10 dX5_kind_49 (by decide) rfl rfl ?_
    refine y_getR fkX5_86 dX5_kind_52 (by decide) rfl rfl ?_
    refine x_iload_n dX5_kind_55 rfl ?_
    refine y_ialdn (j := k) dX5_kind_56 (by decide) rfl (ixN (by omega)) (by omega) ?_
    exact y_ret dX5_kind_57 rfl (rfl) ((hR.2.1 k hk).1) (rfl)
  · exact absurd c_4 (by decide)
theorem y_kind_1 {M : Mem} {V : Row} (hR : RM M 1 V) (hV : WF V) {k : Nat} (hk : k < 6) : Y 5 mX5_kind 0 (lent 3 [.ref 0, .int (nI k), .int (nI 1)]) [] M (some (.int (waresV V (nI k)))) M := by
  have hi := y_isKindT (M := M) (vp_in_nI (n := k) (N := 6) hk (by decide))
  skip
  refine x_iload_n dX5_kind_0 rfl ?_
  refine y_callS (as := [_]) okX5_isKind lkX5_54 dX5_kind_1 rfl ((hi.more (d' := 4) (by omega))) (by omega) rfl (by simp [Value.category]) (Nat.le_of_ble_eq_true rfl) (cat8 rfl) ?_
  refine x_if_ne 9 dX5_kind_4 (by decide) (fun c_4 => ?_) (fun c_4 => ?_)
  · refine x_iload_n dX5_kind_9 rfl ?_
    refine x_tableIn (off := 48) 58 dX5_kind_10 (by decide) (by decide) (by decide) (by decide) ?_
    refine x_aload_n dX5_kind_58 rfl ?_
    refine y_getR fkX5_10 dX5_kind_59 (by decide) rfl rfl ?_
    refine x_iload_n dX5_kind_62 rfl ?_
    refine y_callV (as := [_]) okX2_waresOfKind lkX5_195 dX5_kind_63 rfl (by decide) rfl (((y_waresOfKind mk1 hR hV).more (d' := 4) (by omega))) (by omega) rfl (by simp [Value.category]) (Nat.le_of_ble_eq_true rfl) rfl rfl (cat8 rfl) ?_
    exact y_ret dX5_kind_66 rfl (rfl) (rfl) (rfl)
  · exact absurd c_4 (by decide)
theorem y_kind_2 {M : Mem} {V : Row} (hR : RM M 1 V) (hV : WF V) {k : Nat} (hk : k < 6) : Y 5 mX5_kind 0 (lent 3 [.ref 0, .int (nI k), .int (nI 2)]) [] M (some (.int (waresV V (nI k) - swaresV V (nI k)))) M := by
  have hi := y_isKindT (M := M) (vp_in_nI (n := k) (N := 6) hk (by decide))
  skip
  refine x_iload_n dX5_kind_0 rfl ?_
  refine y_callS (as := [_]) okX5_isKind lkX5_54 dX5_kind_1 rfl ((hi.more (d' := 4) (by omega))) (by omega) rfl (by simp [Value.category]) (Nat.le_of_ble_eq_true rfl) (cat8 rfl) ?_
  refine x_if_ne 9 dX5_kind_4 (by decide) (fun c_4 => ?_) (fun c_4 => ?_)
  · refine x_iload_n dX5_kind_9 rfl ?_
    refine x_tableIn (off := 57) 67 dX5_kind_10 (by decide) (by decide) (by decide) (by decide) ?_
    refine x_aload_n dX5_kind_67 rfl ?_
    refine y_getR fkX5_10 dX5_kind_68 (by decide) rfl rfl ?_
    refine x_iload_n dX5_kind_71 rfl ?_
    refine y_callV (as := [_]) okX2_waresOfKind lkX5_195 dX5_kind_72 rfl (by decide) rfl (((y_waresOfKind mk1 hR hV).more (d' := 4) (by omega))) (by omega) rfl (by simp [Value.category]) (Nat.le_of_ble_eq_true rfl) rfl rfl (cat8 rfl) ?_
    refine x_aload_n dX5_kind_75 rfl ?_
    refine y_getR fkX5_10 dX5_kind_76 (by decide) rfl rfl ?_
    refine x_iload_n dX5_kind_79 rfl ?_
    refine y_callV (as := [_]) okX2_soundWaresOfKind lkX5_198 dX5_kind_80 rfl (by decide) rfl (y_soundWaresOfKind mk1 hR hV) (by omega) rfl (by simp [Value.category]) (Nat.le_of_ble_eq_true rfl) rfl rfl (cat8 rfl) ?_
    refine x_isub dX5_kind_83 ?_
    exact y_ret dX5_kind_84 rfl (rfl) (rfl) (rfl)
  · exact absurd c_4 (by decide)
theorem y_kind_3 {M : Mem} {V : Row} (hR : RM M 1 V) (hV : WF V) {k : Nat} (hk : k < 6) : Y 5 mX5_kind 0 (lent 3 [.ref 0, .int (nI k), .int (nI 3)]) [] M (some (.int (wantV V (nI k)))) M := by
  have hi := y_isKindT (M := M) (vp_in_nI (n := k) (N := 6) hk (by decide))
  skip
  refine x_iload_n dX5_kind_0 rfl ?_
  refine y_callS (as := [_]) okX5_isKind lkX5_54 dX5_kind_1 rfl ((hi.more (d' := 4) (by omega))) (by omega) rfl (by simp [Value.category]) (Nat.le_of_ble_eq_true rfl) (cat8 rfl) ?_
  refine x_if_ne 9 dX5_kind_4 (by decide) (fun c_4 => ?_) (fun c_4 => ?_)
  · refine x_iload_n dX5_kind_9 rfl ?_
    refine x_tableIn (off := 75) 85 dX5_kind_10 (by decide) (by decide) (by decide) (by decide) ?_
    refine x_aload_n dX5_kind_85 rfl ?_
    refine y_getR fkX5_10 dX5_kind_86 (by decide) rfl rfl ?_
    refine x_iload_n dX5_kind_89 rfl ?_
    refine y_callV (as := [_]) okX2_tradersWhoWant lkX5_201 dX5_kind_90 rfl (by decide) rfl (((y_tradersWhoWant mk1 hR hV).more (d' := 4) (by omega))) (by omega) rfl (by simp [Value.category]) (Nat.le_of_ble_eq_true rfl) rfl rfl (cat8 rfl) ?_
    exact y_ret dX5_kind_93 rfl (rfl) (rfl) (rfl)
  · exact absurd c_4 (by decide)
theorem y_kind_4 {M : Mem} {V : Row} (hR : RM M 1 V) (hV : WF V) {k : Nat} (hk : k < 6) : Y 5 mX5_kind 0 (lent 3 [.ref 0, .int (nI k), .int (nI 4)]) [] M (some (.int (makeV V (nI k)))) M := by
  have hi := y_isKindT (M := M) (vp_in_nI (n := k) (N := 6) hk (by decide))
  skip
  refine x_iload_n dX5_kind_0 rfl ?_
  refine y_callS (as := [_]) okX5_isKind lkX5_54 dX5_kind_1 rfl ((hi.more (d' := 4) (by omega))) (by omega) rfl (by simp [Value.category]) (Nat.le_of_ble_eq_true rfl) (cat8 rfl) ?_
  refine x_if_ne 9 dX5_kind_4 (by decide) (fun c_4 => ?_) (fun c_4 => ?_)
  · refine x_iload_n dX5_kind_9 rfl ?_
    refine x_tableIn (off := 84) 94 dX5_kind_10 (by decide) (by decide) (by decide) (by decide) ?_
    refine x_aload_n dX5_kind_94 rfl ?_
    refine y_getR fkX5_10 dX5_kind_95 (by decide) rfl rfl ?_
    refine x_iload_n dX5_kind_98 rfl ?_
    refine y_callV (as := [_]) okX2_tradersWhoMake lkX5_204 dX5_kind_99 rfl (by decide) rfl (((y_tradersWhoMake mk1 hR hV).more (d' := 4) (by omega))) (by omega) rfl (by simp [Value.category]) (Nat.le_of_ble_eq_true rfl) rfl rfl (cat8 rfl) ?_
    exact y_ret dX5_kind_102 rfl (rfl) (rfl) (rfl)
  · exact absurd c_4 (by decide)
theorem y_kind_5 {M : Mem} {V : Row} (hR : RM M 1 V) (hV : WF V) {k : Nat} (hk : k < 6) : Y 5 mX5_kind 0 (lent 3 [.ref 0, .int (nI k), .int (nI 5)]) [] M (some (.int (V (11 + 2 * k)))) M := by
  have hi := y_isKindT (M := M) (vp_in_nI (n := k) (N := 6) hk (by decide))
  skip
  refine x_iload_n dX5_kind_0 rfl ?_
  refine y_callS (as := [_]) okX5_isKind lkX5_54 dX5_kind_1 rfl ((hi.more (d' := 4) (by omega))) (by omega) rfl (by simp [Value.category]) (Nat.le_of_ble_eq_true rfl) (cat8 rfl) ?_
  refine x_if_ne 9 dX5_kind_4 (by decide) (fun c_4 => ?_) (fun c_4 => ?_)
  · refine x_iload_n dX5_kind_9 rfl ?_
    refine x_tableIn (off := 93) 103 dX5_kind_10 (by decide) (by decide) (by decide) (by decide) ?_
    refine x_aload_n dX5_kind_103 rfl ?_
    refine y_getR fkX5_10 dX5_kind_104 (by decide) rfl rfl ?_
    refine y_getR fkX5_207 dX5_kind_107 (by decide) rfl rfl ?_
    refine x_iload_n dX5_kind_110 rfl ?_
    refine y_ialdn (j := k) dX5_kind_111 (by decide) rfl (ixN (by omega)) (by omega) ?_
    exact y_ret dX5_kind_112 rfl (rfl) ((hR.2.1 k hk).2) (rfl)
  · exact absurd c_4 (by decide)
theorem y_kind_d {M : Mem} {V : Row} (hR : RM M 1 V) (hV : WF V) {k : Nat} (hk : k < 6) {x : Int32} (hx : x.toInt < 0 ∨ 5 < x.toInt) : Y 5 mX5_kind 0 (lent 3 [.ref 0, .int (nI k), .int x]) [] M (some (.int (-1))) M := by
  have hi := y_isKindT (M := M) (vp_in_nI (n := k) (N := 6) hk (by decide))
  skip
  refine x_iload_n dX5_kind_0 rfl ?_
  refine y_callS (as := [_]) okX5_isKind lkX5_54 dX5_kind_1 rfl ((hi.more (d' := 4) (by omega))) (by omega) rfl (by simp [Value.category]) (Nat.le_of_ble_eq_true rfl) (cat8 rfl) ?_
  refine x_if_ne 9 dX5_kind_4 (by decide) (fun c_4 => ?_) (fun c_4 => ?_)
  · refine x_iload_n dX5_kind_9 rfl ?_
    refine x_tableOut 113 dX5_kind_10 (hx) (by decide) ?_
    refine x_iconstv (v := -1) dX5_kind_113 (by decide) ?_
    exact y_ret dX5_kind_114 rfl (rfl) (rfl) (rfl)
  · exact absurd c_4 (by decide)
theorem y_kind_n {M : Mem} {k x : Int32} (hx : ¬ (0 ≤ k ∧ k < 6)) : Y 5 mX5_kind 0 (lent 3 [.ref 0, .int k, .int x]) [] M (some (.int (-1))) M := by
  skip
  refine x_iload_n dX5_kind_0 rfl ?_
  refine y_callS (as := [_]) okX5_isKind lkX5_54 dX5_kind_1 rfl ((y_isKind.more (d' := 4) (by omega))) (by omega) rfl (by simp [Value.category]) (Nat.le_of_ble_eq_true rfl) (cat8 rfl) ?_
  refine x_if_ne 9 dX5_kind_4 (by decide) (fun c_4 => ?_) (fun c_4 => ?_)
  · exact absurd (in_bitl.mp (b2i_nz c_4)) hx
  · refine x_iconstv (v := -1) dX5_kind_7 (by decide) ?_
    exact y_ret dX5_kind_8 rfl (rfl) (rfl) (rfl)
