theorem y_isKind {M : Mem} {k : Int32} : Y 0 mX5_isKind 0 (lent 1 [.int k]) [] M (some (.int (b2i (decide (0 ≤ k) && decide (k < 6))))) M := by
  refine x_iload_n dX5_isKind_0 rfl ?_
  refine x_if_lt 14 dX5_isKind_1 (by decide) (fun c_1 => ?_) (fun c_1 => ?_)
  · refine x_iconstv (v := 0) dX5_isKind_14 (by decide) ?_
    exact y_ret dX5_isKind_15 rfl (rfl) (by simp [b2i, *] <;> grind) (rfl)
  · refine x_iload_n dX5_isKind_4 rfl ?_
    refine x_bipushv (v := 6) dX5_isKind_5 (by decide) ?_
    refine x_icmp_ge 14 dX5_isKind_7 (by decide) (fun c_7 => ?_) (fun c_7 => ?_)
    · refine x_iconstv (v := 0) dX5_isKind_14 (by decide) ?_
      exact y_ret dX5_isKind_15 rfl (rfl) (by simp [b2i, *] <;> grind) (rfl)
    · refine x_iconstv (v := 1) dX5_isKind_10 (by decide) ?_
      refine x_goto 15 dX5_isKind_11 (by decide) ?_
      exact y_ret dX5_isKind_15 rfl (rfl) (by simp [b2i, *] <;> grind) (rfl)
theorem y_isSet {M : Mem} {k : Int32} : Y 0 mX5_isSetOfKinds 0 (lent 1 [.int k]) [] M (some (.int (b2i (decide (0 ≤ k) && decide (k ≤ 63))))) M := by
  refine x_iload_n dX5_isSetOfKinds_0 rfl ?_
  refine x_if_lt 14 dX5_isSetOfKinds_1 (by decide) (fun c_1 => ?_) (fun c_1 => ?_)
  · refine x_iconstv (v := 0) dX5_isSetOfKinds_14 (by decide) ?_
    exact y_ret dX5_isSetOfKinds_15 rfl (rfl) (by simp [b2i, *] <;> grind) (rfl)
  · refine x_iload_n dX5_isSetOfKinds_4 rfl ?_
    refine x_bipushv (v := 63) dX5_isSetOfKinds_5 (by decide) ?_
    refine x_icmp_gt 14 dX5_isSetOfKinds_7 (by decide) (fun c_7 => ?_) (fun c_7 => ?_)
    · refine x_iconstv (v := 0) dX5_isSetOfKinds_14 (by decide) ?_
      exact y_ret dX5_isSetOfKinds_15 rfl (rfl) (by simp [b2i, *] <;> grind) (rfl)
    · refine x_iconstv (v := 1) dX5_isSetOfKinds_10 (by decide) ?_
      refine x_goto 15 dX5_isSetOfKinds_11 (by decide) ?_
      exact y_ret dX5_isSetOfKinds_15 rfl (rfl) (by simp [b2i, *] <;> grind) (rfl)
theorem y_isCircle {M : Mem} {k : Int32} : Y 0 mX5_isCircleLength 0 (lent 1 [.int k]) [] M (some (.int (b2i (decide (2 ≤ k) && decide (k ≤ 7))))) M := by
  refine x_iload_n dX5_isCircleLength_0 rfl ?_
  refine x_iconstv (v := 2) dX5_isCircleLength_1 (by decide) ?_
  refine x_icmp_lt 15 dX5_isCircleLength_2 (by decide) (fun c_2 => ?_) (fun c_2 => ?_)
  · refine x_iconstv (v := 0) dX5_isCircleLength_15 (by decide) ?_
    exact y_ret dX5_isCircleLength_16 rfl (rfl) (by simp [b2i, *] <;> grind) (rfl)
  · refine x_iload_n dX5_isCircleLength_5 rfl ?_
    refine x_bipushv (v := 7) dX5_isCircleLength_6 (by decide) ?_
    refine x_icmp_gt 15 dX5_isCircleLength_8 (by decide) (fun c_8 => ?_) (fun c_8 => ?_)
    · refine x_iconstv (v := 0) dX5_isCircleLength_15 (by decide) ?_
      exact y_ret dX5_isCircleLength_16 rfl (rfl) (by simp [b2i, *] <;> grind) (rfl)
    · refine x_iconstv (v := 1) dX5_isCircleLength_11 (by decide) ?_
      refine x_goto 16 dX5_isCircleLength_12 (by decide) ?_
      exact y_ret dX5_isCircleLength_16 rfl (rfl) (by simp [b2i, *] <;> grind) (rfl)
theorem y_holds {M : Mem} {s k : Int32} : Y 0 mX5_holds 0 (lent 2 [.int s, .int k]) [] M (some (.int (b2i (decide (s >>> (k &&& 31) &&& 1 ≠ 0))))) M := by
  refine x_iload_n dX5_holds_0 rfl ?_
  refine x_iload_n dX5_holds_1 rfl ?_
  refine x_ishr dX5_holds_2 ?_
  refine x_iconstv (v := 1) dX5_holds_3 (by decide) ?_
  refine x_iand dX5_holds_4 ?_
  refine x_if_eq 12 dX5_holds_5 (by decide) (fun c_5 => ?_) (fun c_5 => ?_)
  · refine x_iconstv (v := 0) dX5_holds_12 (by decide) ?_
    exact y_ret dX5_holds_13 rfl (rfl) (by simp [b2i, *] <;> grind) (rfl)
  · refine x_iconstv (v := 1) dX5_holds_8 (by decide) ?_
    refine x_goto 13 dX5_holds_9 (by decide) ?_
    exact y_ret dX5_holds_13 rfl (rfl) (by simp [b2i, *] <;> grind) (rfl)
theorem y_with {M : Mem} {s k : Int32} : Y 0 mX5_with 0 (lent 2 [.int s, .int k]) [] M (some (.int (s ||| 1 <<< (k &&& 31)))) M := by
  refine x_iload_n dX5_with_0 rfl ?_
  refine x_iconstv (v := 1) dX5_with_1 (by decide) ?_
  refine x_iload_n dX5_with_2 rfl ?_
  refine x_ishl dX5_with_3 ?_
  refine x_ior dX5_with_4 ?_
  exact y_ret dX5_with_5 rfl (rfl) (rfl) (rfl)
theorem y_has {o : Nat} (hk : IsMk o) {M : Mem} {V : Row} (hR : RM M o V) (hV : WF V) {t : Int32} : Y 0 mX2_has 0 (lent 2 [.ref o, .int t]) [] M (some (.int (b2i (hasB V t)))) M := by
  have hs := hR.1.1
  obtain ⟨hn1, hn2⟩ := WF_n hV
  have h7 : V 1 ≤ 7 := by rw [hn2]; exact nI_le hn1 (by decide)
  refine x_iload_n dX2_has_0 rfl ?_
  refine x_if_lt 25 dX2_has_1 (by decide) (fun c_1 => ?_) (fun c_1 => ?_)
  · refine x_iconstv (v := 0) dX2_has_25 (by decide) ?_
    exact y_ret dX2_has_26 rfl (rfl) (by simp [b2i, hasB] <;> grind) (rfl)
  · refine x_iload_n dX2_has_4 rfl ?_
    refine x_aload_n dX2_has_5 rfl ?_
    refine y_getI fkX2_61 dX2_has_6 (hk.1 0 (by decide)) (hk.2 0 (by decide)) rfl ?_
    refine x_icmp_ge 25 dX2_has_9 (by decide) (fun c_9 => ?_) (fun c_9 => ?_)
    · refine x_iconstv (v := 0) dX2_has_25 (by decide) ?_
      exact y_ret dX2_has_26 rfl (rfl) (by simp [b2i, hasB] <;> grind) (rfl)
    · refine x_aload_n dX2_has_12 rfl ?_
      refine y_getI fkX2_61 dX2_has_13 (hk.1 0 (by decide)) (hk.2 0 (by decide)) rfl ?_
      refine x_bipushv (v := 7) dX2_has_16 (by decide) ?_
      refine x_icmp_gt 25 dX2_has_18 (by decide) (fun c_18 => ?_) (fun c_18 => ?_)
      · refine x_iconstv (v := 0) dX2_has_25 (by decide) ?_
        exact y_ret dX2_has_26 rfl (rfl) (by simp [b2i, hasB] <;> grind) (rfl)
      · refine x_iconstv (v := 1) dX2_has_21 (by decide) ?_
        refine x_goto 26 dX2_has_22 (by decide) ?_
        exact y_ret dX2_has_26 rfl (rfl) (by simp [b2i, hasB] <;> grind) (rfl)
