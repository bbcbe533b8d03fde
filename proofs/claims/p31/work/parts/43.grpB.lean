theorem y_bitCount {M : Mem} {x : Int32} : Y 0 mJ6_bitCount_0f7a4 0 (lent 1 [.int x]) [] M (some (.int (bc x))) M := by
  refine x_iload_n dJ6_bitCount_0f7a4_0 rfl ?_
  refine x_iload_n dJ6_bitCount_0f7a4_1 rfl ?_
  refine x_iconstv (v := 1) dJ6_bitCount_0f7a4_2 (by decide) ?_
  refine x_iushr dJ6_bitCount_0f7a4_3 ?_
  refine x_ldcw dJ6_bitCount_0f7a4_4 kkJ6_265 ?_
  refine x_iand dJ6_bitCount_0f7a4_7 ?_
  refine x_isub dJ6_bitCount_0f7a4_8 ?_
  refine x_istore_n dJ6_bitCount_0f7a4_9 (by decide) rfl ?_
  refine x_iload_n dJ6_bitCount_0f7a4_10 rfl ?_
  refine x_ldcw dJ6_bitCount_0f7a4_11 kkJ6_266 ?_
  refine x_iand dJ6_bitCount_0f7a4_14 ?_
  refine x_iload_n dJ6_bitCount_0f7a4_15 rfl ?_
  refine x_iconstv (v := 2) dJ6_bitCount_0f7a4_16 (by decide) ?_
  refine x_iushr dJ6_bitCount_0f7a4_17 ?_
  refine x_ldcw dJ6_bitCount_0f7a4_18 kkJ6_266 ?_
  refine x_iand dJ6_bitCount_0f7a4_21 ?_
  refine x_iadd dJ6_bitCount_0f7a4_22 ?_
  refine x_istore_n dJ6_bitCount_0f7a4_23 (by decide) rfl ?_
  refine x_iload_n dJ6_bitCount_0f7a4_24 rfl ?_
  refine x_iload_n dJ6_bitCount_0f7a4_25 rfl ?_
  refine x_iconstv (v := 4) dJ6_bitCount_0f7a4_26 (by decide) ?_
  refine x_iushr dJ6_bitCount_0f7a4_27 ?_
  refine x_iadd dJ6_bitCount_0f7a4_28 ?_
  refine x_ldcw dJ6_bitCount_0f7a4_29 kkJ6_267 ?_
  refine x_iand dJ6_bitCount_0f7a4_32 ?_
  refine x_istore_n dJ6_bitCount_0f7a4_33 (by decide) rfl ?_
  refine x_iload_n dJ6_bitCount_0f7a4_34 rfl ?_
  refine x_iload_n dJ6_bitCount_0f7a4_35 rfl ?_
  refine x_bipushv (v := 8) dJ6_bitCount_0f7a4_36 (by decide) ?_
  refine x_iushr dJ6_bitCount_0f7a4_38 ?_
  refine x_iadd dJ6_bitCount_0f7a4_39 ?_
  refine x_istore_n dJ6_bitCount_0f7a4_40 (by decide) rfl ?_
  refine x_iload_n dJ6_bitCount_0f7a4_41 rfl ?_
  refine x_iload_n dJ6_bitCount_0f7a4_42 rfl ?_
  refine x_bipushv (v := 16) dJ6_bitCount_0f7a4_43 (by decide) ?_
  refine x_iushr dJ6_bitCount_0f7a4_45 ?_
  refine x_iadd dJ6_bitCount_0f7a4_46 ?_
  refine x_istore_n dJ6_bitCount_0f7a4_47 (by decide) rfl ?_
  refine x_iload_n dJ6_bitCount_0f7a4_48 rfl ?_
  refine x_bipushv (v := 63) dJ6_bitCount_0f7a4_49 (by decide) ?_
  refine x_iand dJ6_bitCount_0f7a4_51 ?_
  exact y_ret dJ6_bitCount_0f7a4_52 rfl (rfl) (rfl) (rfl)
theorem y_hasT {o : Nat} (hk : IsMk o) {M : Mem} {V : Row} (hR : RM M o V) (hV : WF V) {j : Nat} (hj : j < nT V) : Y 0 mX2_has 0 (lent 2 [.ref o, .int (nI j)]) [] M (some (.int (1))) M := by
  have h := y_has hk hR hV (t := nI j)
  rw [hasB_nI hV (n31 hV (Nat.le_of_lt hj)), decide_eq_true hj] at h
  exact h
theorem y_isKindT {M : Mem} {x : Int32} (hx : vp_in x 6) : Y 0 mX5_isKind 0 (lent 1 [.int x]) [] M (some (.int (1))) M := by
  have h := y_isKind (M := M) (k := x)
  obtain ⟨j, hj, rfl⟩ := vp_in_of hx (by decide)
  rw [decide_eq_true (nI_pos' (by omega)), decide_eq_true (show nI j < 6 from nI_lt hj (by decide))] at h
  exact h
theorem y_hasBoth {o : Nat} (hk : IsMk o) {M : Mem} {V : Row} (hR : RM M o V) (hV : WF V) {a b : Int32} : Y 1 mX2_hasBoth 0 (lent 3 [.ref o, .int a, .int b]) [] M (some (.int (b2i (bothB V a b)))) M := by
  refine x_aload_n dX2_hasBoth_0 rfl ?_
  refine x_iload_n dX2_hasBoth_1 rfl ?_
  refine y_callV (as := [_]) okX2_has lkX2_79 dX2_hasBoth_2 rfl (hk.1 0 (by decide)) (hk.2 0 (by decide)) (y_has hk hR hV) (by omega) rfl (by simp [Value.category]) (Nat.le_of_ble_eq_true rfl) rfl rfl (cat8 rfl) ?_
  refine x_if_eq 25 dX2_hasBoth_5 (by decide) (fun c_5 => ?_) (fun c_5 => ?_)
  · refine x_iconstv (v := 0) dX2_hasBoth_25 (by decide) ?_
    exact y_ret dX2_hasBoth_26 rfl (rfl) (by simp_all [b2i_z, bothB, b2i]) (rfl)
  · refine x_aload_n dX2_hasBoth_8 rfl ?_
    refine x_iload_n dX2_hasBoth_9 rfl ?_
    refine y_callV (as := [_]) okX2_has lkX2_79 dX2_hasBoth_10 rfl (hk.1 0 (by decide)) (hk.2 0 (by decide)) (y_has hk hR hV) (by omega) rfl (by simp [Value.category]) (Nat.le_of_ble_eq_true rfl) rfl rfl (cat8 rfl) ?_
    refine x_if_eq 25 dX2_hasBoth_13 (by decide) (fun c_13 => ?_) (fun c_13 => ?_)
    · refine x_iconstv (v := 0) dX2_hasBoth_25 (by decide) ?_
      exact y_ret dX2_hasBoth_26 rfl (rfl) (by simp_all [b2i_z, bothB, b2i]) (rfl)
    · refine x_iload_n dX2_hasBoth_16 rfl ?_
      refine x_iload_n dX2_hasBoth_17 rfl ?_
      refine x_icmp_eq 25 dX2_hasBoth_18 (by decide) (fun c_18 => ?_) (fun c_18 => ?_)
      · refine x_iconstv (v := 0) dX2_hasBoth_25 (by decide) ?_
        exact y_ret dX2_hasBoth_26 rfl (rfl) (by simp_all [b2i_z, bothB, b2i]) (rfl)
      · refine x_iconstv (v := 1) dX2_hasBoth_21 (by decide) ?_
        refine x_goto 26 dX2_hasBoth_22 (by decide) ?_
        exact y_ret dX2_hasBoth_26 rfl (rfl) (by simp_all [b2i_z, bothB, b2i]) (rfl)
theorem y_hasWare {o : Nat} (hk : IsMk o) {M : Mem} {V : Row} (hR : RM M o V) (hV : WF V) {j : Nat} (hj : j < nT V) : Y 1 mX2_hasWare 0 (lent 2 [.ref o, .int (nI j)]) [] M (some (.int (1))) M := by
  have hR0 := hR
  obtain ⟨⟨r7, r8, r9, r10, r11, r12, r13, r14, r15, r2⟩, rk, rt⟩ := hR0
  obtain ⟨hn1, hn2⟩ := WF_n hV
  refine x_aload_n dX2_hasWare_0 rfl ?_
  refine x_iload_n dX2_hasWare_1 rfl ?_
  refine y_callV (as := [_]) okX2_has lkX2_79 dX2_hasWare_2 rfl (hk.1 0 (by decide)) (hk.2 0 (by decide)) (y_hasT hk hR hV hj) (by omega) rfl (by simp [Value.category]) (Nat.le_of_ble_eq_true rfl) rfl rfl (cat8 rfl) ?_
  refine x_if_eq 24 dX2_hasWare_5 (by decide) (fun c_5 => ?_) (fun c_5 => ?_)
  · exact absurd c_5 (by decide)
  · refine x_aload_n dX2_hasWare_8 rfl ?_
    refine y_getR fkX2_18 dX2_hasWare_9 (hk.1 0 (by decide)) (hk.2 0 (by decide)) rfl ?_
    refine x_iload_n dX2_hasWare_12 rfl ?_
    refine y_iald dX2_hasWare_13 (hk.1 3 (by decide)) (hk.2 3 (by decide)) (vp_in_nI (n := j) (by omega) (by decide)) ?_
    rw [nI_clamp (n := j) (by omega)]
    rw [(rt j hj).2.2.1]
    refine y_callSN (as := [_]) okX5_isKind nsX2_87 dX2_hasWare_14 rfl (y_isKindT (hV.2.1 j hj).2.2.1) (by omega) rfl (by simp [Value.category]) (Nat.le_of_ble_eq_true rfl) (cat8 rfl) ?_
    refine x_if_eq 24 dX2_hasWare_17 (by decide) (fun c_17 => ?_) (fun c_17 => ?_)
    · exact absurd c_17 (by decide)
    · refine x_iconstv (v := 1) dX2_hasWare_20 (by decide) ?_
      refine x_goto 25 dX2_hasWare_21 (by decide) ?_
      exact y_ret dX2_hasWare_25 rfl (rfl) (rfl) (rfl)
theorem y_hasSound {o : Nat} (hk : IsMk o) {M : Mem} {V : Row} (hR : RM M o V) (hV : WF V) {j : Nat} (hj : j < nT V) : Y 2 mX2_hasSoundWare 0 (lent 2 [.ref o, .int (nI j)]) [] M (some (.int (b2i (decide (0 < dli V j))))) M := by
  have hR0 := hR
  obtain ⟨⟨r7, r8, r9, r10, r11, r12, r13, r14, r15, r2⟩, rk, rt⟩ := hR0
  obtain ⟨hn1, hn2⟩ := WF_n hV
  have hsn := snd_iff hV hj
  refine x_aload_n dX2_hasSoundWare_0 rfl ?_
  refine x_iload_n dX2_hasSoundWare_1 rfl ?_
  refine y_callV (as := [_]) okX2_hasWare lkX2_90 dX2_hasSoundWare_2 rfl (hk.1 0 (by decide)) (hk.2 0 (by decide)) (y_hasWare hk hR hV hj) (by omega) rfl (by simp [Value.category]) (Nat.le_of_ble_eq_true rfl) rfl rfl (cat8 rfl) ?_
  refine x_if_eq 32 dX2_hasSoundWare_5 (by decide) (fun c_5 => ?_) (fun c_5 => ?_)
  · exact absurd c_5 (by decide)
  · refine x_aload_n dX2_hasSoundWare_8 rfl ?_
    refine y_getR fkX2_21 dX2_hasSoundWare_9 (hk.1 0 (by decide)) (hk.2 0 (by decide)) rfl ?_
    refine x_iload_n dX2_hasSoundWare_12 rfl ?_
    refine y_iald dX2_hasSoundWare_13 (hk.1 4 (by decide)) (hk.2 4 (by decide)) (vp_in_nI (n := j) (by omega) (by decide)) ?_
    rw [nI_clamp (n := j) (by omega)]
    rw [(rt j hj).2.2.2.1]
    refine x_aload_n dX2_hasSoundWare_14 rfl ?_
    refine y_getR fkX2_27 dX2_hasSoundWare_15 (hk.1 0 (by decide)) (hk.2 0 (by decide)) rfl ?_
    refine x_aload_n dX2_hasSoundWare_18 rfl ?_
    refine y_getR fkX2_18 dX2_hasSoundWare_19 (hk.1 0 (by decide)) (hk.2 0 (by decide)) rfl ?_
    refine x_iload_n dX2_hasSoundWare_22 rfl ?_
    refine y_iald dX2_hasSoundWare_23 (hk.1 3 (by decide)) (hk.2 3 (by decide)) (vp_in_nI (n := j) (by omega) (by decide)) ?_
    rw [nI_clamp (n := j) (by omega)]
    rw [(rt j hj).2.2.1]
    refine y_iald dX2_hasSoundWare_24 (hk.1 6 (by decide)) (hk.2 6 (by decide)) ((hV.2.1 j hj).2.2.1) ?_
    rw [show (V (24 + 5 * j)).toNatClampNeg = kd V j from rfl, (rk (kd V j) (vpin_lt (hV.2.1 j hj).2.2.1)).1]
    refine x_icmp_ge 32 dX2_hasSoundWare_25 (by decide) (fun c_25 => ?_) (fun c_25 => ?_)
    · refine x_iconstv (v := 0) dX2_hasSoundWare_32 (by decide) ?_
      exact y_ret dX2_hasSoundWare_33 rfl (rfl) (by first | rw [b2i_T (decide_eq_true (hsn.mp (Int32.not_le.mp c_25)))] | rw [b2i_F (decide_eq_false (fun q => absurd (hsn.mpr q) (Int32.not_lt.mpr c_25)))]) (rfl)
    · refine x_iconstv (v := 1) dX2_hasSoundWare_28 (by decide) ?_
      refine x_goto 33 dX2_hasSoundWare_29 (by decide) ?_
      exact y_ret dX2_hasSoundWare_33 rfl (rfl) (by first | rw [b2i_T (decide_eq_true (hsn.mp (Int32.not_le.mp c_25)))] | rw [b2i_F (decide_eq_false (fun q => absurd (hsn.mpr q) (Int32.not_lt.mpr c_25)))]) (rfl)
theorem y_daysLeft {o : Nat} (hk : IsMk o) {M : Mem} {V : Row} (hR : RM M o V) (hV : WF V) {j : Nat} (hj : j < nT V) : Y 3 mX2_daysLeft 0 (lent 2 [.ref o, .int (nI j)]) [] M (some (.int (dl V j))) M := by
  have hR0 := hR
  obtain ⟨⟨r7, r8, r9, r10, r11, r12, r13, r14, r15, r2⟩, rk, rt⟩ := hR0
  obtain ⟨hn1, hn2⟩ := WF_n hV
  refine x_aload_n dX2_daysLeft_0 rfl ?_
  refine x_iload_n dX2_daysLeft_1 rfl ?_
  refine y_callV (as := [_]) okX2_hasSoundWare lkX2_93 dX2_daysLeft_2 rfl (hk.1 0 (by decide)) (hk.2 0 (by decide)) (y_hasSound hk hR hV hj) (by omega) rfl (by simp [Value.category]) (Nat.le_of_ble_eq_true rfl) rfl rfl (cat8 rfl) ?_
  refine x_if_eq 29 dX2_daysLeft_5 (by decide) (fun c_5 => ?_) (fun c_5 => ?_)
  · refine x_iconstv (v := 0) dX2_daysLeft_29 (by decide) ?_
    exact y_ret dX2_daysLeft_30 rfl (rfl) (by first | exact (dl_0 (of_decide_eq_false (b2i_z.mp c_5))).symm | exact (dl_1 (of_decide_eq_true ((Bool.not_eq_false _).mp (fun q => c_5 (b2i_z.mpr q))))).symm) (rfl)
  · refine x_aload_n dX2_daysLeft_8 rfl ?_
    refine y_getR fkX2_27 dX2_daysLeft_9 (hk.1 0 (by decide)) (hk.2 0 (by decide)) rfl ?_
    refine x_aload_n dX2_daysLeft_12 rfl ?_
    refine y_getR fkX2_18 dX2_daysLeft_13 (hk.1 0 (by decide)) (hk.2 0 (by decide)) rfl ?_
    refine x_iload_n dX2_daysLeft_16 rfl ?_
    refine y_iald dX2_daysLeft_17 (hk.1 3 (by decide)) (hk.2 3 (by decide)) (vp_in_nI (n := j) (by omega) (by decide)) ?_
    rw [nI_clamp (n := j) (by omega)]
    rw [(rt j hj).2.2.1]
    refine y_iald dX2_daysLeft_18 (hk.1 6 (by decide)) (hk.2 6 (by decide)) ((hV.2.1 j hj).2.2.1) ?_
    rw [show (V (24 + 5 * j)).toNatClampNeg = kd V j from rfl, (rk (kd V j) (vpin_lt (hV.2.1 j hj).2.2.1)).1]
    refine x_aload_n dX2_daysLeft_19 rfl ?_
    refine y_getR fkX2_21 dX2_daysLeft_20 (hk.1 0 (by decide)) (hk.2 0 (by decide)) rfl ?_
    refine x_iload_n dX2_daysLeft_23 rfl ?_
    refine y_iald dX2_daysLeft_24 (hk.1 4 (by decide)) (hk.2 4 (by decide)) (vp_in_nI (n := j) (by omega) (by decide)) ?_
    rw [nI_clamp (n := j) (by omega)]
    rw [(rt j hj).2.2.2.1]
    refine x_isub dX2_daysLeft_25 ?_
    refine x_goto 30 dX2_daysLeft_26 (by decide) ?_
    exact y_ret dX2_daysLeft_30 rfl (rfl) (by first | exact (dl_0 (of_decide_eq_false (b2i_z.mp c_5))).symm | exact (dl_1 (of_decide_eq_true ((Bool.not_eq_false _).mp (fun q => c_5 (b2i_z.mpr q))))).symm) (rfl)
theorem y_wants {o : Nat} (hk : IsMk o) {M : Mem} {V : Row} (hR : RM M o V) (hV : WF V) {t g : Nat} (ht : t < nT V) (hg : g < nT V) : Y 2 mX2_wantsWareOf 0 (lent 3 [.ref o, .int (nI t), .int (nI g)]) [] M (some (.int (b2i (decide (wb V t g = 1))))) M := by
  have hR0 := hR
  obtain ⟨⟨r7, r8, r9, r10, r11, r12, r13, r14, r15, r2⟩, rk, rt⟩ := hR0
  obtain ⟨hn1, hn2⟩ := WF_n hV
  refine x_aload_n dX2_wantsWareOf_0 rfl ?_
  refine x_iload_n dX2_wantsWareOf_1 rfl ?_
  refine y_callV (as := [_]) okX2_hasWare lkX2_90 dX2_wantsWareOf_2 rfl (hk.1 0 (by decide)) (hk.2 0 (by decide)) (y_hasWare hk hR hV hg) (by omega) rfl (by simp [Value.category]) (Nat.le_of_ble_eq_true rfl) rfl rfl (cat8 rfl) ?_
  refine x_if_eq 38 dX2_wantsWareOf_5 (by decide) (fun c_5 => ?_) (fun c_5 => ?_)
  · exact absurd c_5 (by decide)
  · refine x_aload_n dX2_wantsWareOf_8 rfl ?_
    refine x_iload_n dX2_wantsWareOf_9 rfl ?_
    refine y_callV (as := [_]) okX2_has lkX2_79 dX2_wantsWareOf_10 rfl (hk.1 0 (by decide)) (hk.2 0 (by decide)) (y_hasT hk hR hV ht) (by omega) rfl (by simp [Value.category]) (Nat.le_of_ble_eq_true rfl) rfl rfl (cat8 rfl) ?_
    refine x_if_eq 38 dX2_wantsWareOf_13 (by decide) (fun c_13 => ?_) (fun c_13 => ?_)
    · exact absurd c_13 (by decide)
    · refine x_aload_n dX2_wantsWareOf_16 rfl ?_
      refine y_getR fkX2_15 dX2_wantsWareOf_17 (hk.1 0 (by decide)) (hk.2 0 (by decide)) rfl ?_
      refine x_iload_n dX2_wantsWareOf_20 rfl ?_
      refine y_iald dX2_wantsWareOf_21 (hk.1 2 (by decide)) (hk.2 2 (by decide)) (vp_in_nI (n := t) (by omega) (by decide)) ?_
      rw [nI_clamp (n := t) (by omega)]
      rw [(rt t ht).2.1]
      refine x_aload_n dX2_wantsWareOf_22 rfl ?_
      refine y_getR fkX2_18 dX2_wantsWareOf_23 (hk.1 0 (by decide)) (hk.2 0 (by decide)) rfl ?_
      refine x_iload_n dX2_wantsWareOf_26 rfl ?_
      refine y_iald dX2_wantsWareOf_27 (hk.1 3 (by decide)) (hk.2 3 (by decide)) (vp_in_nI (n := g) (by omega) (by decide)) ?_
      rw [nI_clamp (n := g) (by omega)]
      rw [(rt g hg).2.2.1]
      refine y_callSN (as := [_, _]) okX5_holds nsX2_96 dX2_wantsWareOf_28 rfl (y_holds) (by omega) rfl (by simp [Value.category]) (Nat.le_of_ble_eq_true rfl) (cat8 rfl) ?_
      refine x_if_eq 38 dX2_wantsWareOf_31 (by decide) (fun c_31 => ?_) (fun c_31 => ?_)
      · refine x_iconstv (v := 0) dX2_wantsWareOf_38 (by decide) ?_
        exact y_ret dX2_wantsWareOf_39 rfl (rfl) (by rcases wb_01 V t g with q | q <;> simp_all [b2i_z, b2i, wb]) (rfl)
      · refine x_iconstv (v := 1) dX2_wantsWareOf_34 (by decide) ?_
        refine x_goto 39 dX2_wantsWareOf_35 (by decide) ?_
        exact y_ret dX2_wantsWareOf_39 rfl (rfl) (by rcases wb_01 V t g with q | q <;> simp_all [b2i_z, b2i, wb]) (rfl)
theorem y_canTake {o : Nat} (hk : IsMk o) {M : Mem} {V : Row} (hR : RM M o V) (hV : WF V) {t g : Nat} (ht : t < nT V) (hg : g < nT V) : Y 3 mX2_canTake 0 (lent 3 [.ref o, .int (nI t), .int (nI g)]) [] M (some (.int (b2i (canV V t g)))) M := by
  have htg := nI_eq (n31 hV (Nat.le_of_lt ht)) (n31 hV (Nat.le_of_lt hg))
  have hst := sh_eq hR hV ht
  have hsg := sh_eq hR hV hg
  refine x_iload_n dX2_canTake_0 rfl ?_
  refine x_iload_n dX2_canTake_1 rfl ?_
  refine x_icmp_eq 50 dX2_canTake_2 (by decide) (fun c_2 => ?_) (fun c_2 => ?_)
  · refine x_iconstv (v := 0) dX2_canTake_50 (by decide) ?_
    exact y_ret dX2_canTake_51 rfl (rfl) (by first | (simp_all [b2i_z, b2i, canV]; done) | (simp_all [b2i_z, b2i, canV] <;> grind) | grind [b2i, canV]) (rfl)
  · refine x_iload_n dX2_canTake_5 rfl ?_
    refine x_aload_n dX2_canTake_6 rfl ?_
    refine y_getI fkX2_40 dX2_canTake_7 (hk.1 0 (by decide)) (hk.2 0 (by decide)) rfl ?_
    refine x_icmp_eq 50 dX2_canTake_10 (by decide) (fun c_10 => ?_) (fun c_10 => ?_)
    · refine x_iconstv (v := 0) dX2_canTake_50 (by decide) ?_
      exact y_ret dX2_canTake_51 rfl (rfl) (by first | (simp_all [b2i_z, b2i, canV]; done) | (simp_all [b2i_z, b2i, canV] <;> grind) | grind [b2i, canV]) (rfl)
    · refine x_iload_n dX2_canTake_13 rfl ?_
      refine x_aload_n dX2_canTake_14 rfl ?_
      refine y_getI fkX2_40 dX2_canTake_15 (hk.1 0 (by decide)) (hk.2 0 (by decide)) rfl ?_
      refine x_icmp_eq 50 dX2_canTake_18 (by decide) (fun c_18 => ?_) (fun c_18 => ?_)
      · refine x_iconstv (v := 0) dX2_canTake_50 (by decide) ?_
        exact y_ret dX2_canTake_51 rfl (rfl) (by first | (simp_all [b2i_z, b2i, canV]; done) | (simp_all [b2i_z, b2i, canV] <;> grind) | grind [b2i, canV]) (rfl)
      · refine x_aload_n dX2_canTake_21 rfl ?_
        refine x_iload_n dX2_canTake_22 rfl ?_
        refine y_callV (as := [_]) okX2_hasSoundWare lkX2_93 dX2_canTake_23 rfl (hk.1 0 (by decide)) (hk.2 0 (by decide)) (y_hasSound hk hR hV ht) (by omega) rfl (by simp [Value.category]) (Nat.le_of_ble_eq_true rfl) rfl rfl (cat8 rfl) ?_
        refine x_if_eq 50 dX2_canTake_26 (by decide) (fun c_26 => ?_) (fun c_26 => ?_)
        · refine x_iconstv (v := 0) dX2_canTake_50 (by decide) ?_
          exact y_ret dX2_canTake_51 rfl (rfl) (by first | (simp_all [b2i_z, b2i, canV]; done) | (simp_all [b2i_z, b2i, canV] <;> grind) | grind [b2i, canV]) (rfl)
        · refine x_aload_n dX2_canTake_29 rfl ?_
          refine x_iload_n dX2_canTake_30 rfl ?_
          refine y_callV (as := [_]) okX2_hasSoundWare lkX2_93 dX2_canTake_31 rfl (hk.1 0 (by decide)) (hk.2 0 (by decide)) (y_hasSound hk hR hV hg) (by omega) rfl (by simp [Value.category]) (Nat.le_of_ble_eq_true rfl) rfl rfl (cat8 rfl) ?_
          refine x_if_eq 50 dX2_canTake_34 (by decide) (fun c_34 => ?_) (fun c_34 => ?_)
          · refine x_iconstv (v := 0) dX2_canTake_50 (by decide) ?_
            exact y_ret dX2_canTake_51 rfl (rfl) (by first | (simp_all [b2i_z, b2i, canV]; done) | (simp_all [b2i_z, b2i, canV] <;> grind) | grind [b2i, canV]) (rfl)
          · refine x_aload_n dX2_canTake_37 rfl ?_
            refine x_iload_n dX2_canTake_38 rfl ?_
            refine x_iload_n dX2_canTake_39 rfl ?_
            refine y_callV (as := [_, _]) okX2_wantsWareOf lkX2_100 dX2_canTake_40 rfl (hk.1 0 (by decide)) (hk.2 0 (by decide)) (y_wants hk hR hV ht hg) (by omega) rfl (by simp [Value.category]) (Nat.le_of_ble_eq_true rfl) rfl rfl (cat8 rfl) ?_
            refine x_if_eq 50 dX2_canTake_43 (by decide) (fun c_43 => ?_) (fun c_43 => ?_)
            · refine x_iconstv (v := 0) dX2_canTake_50 (by decide) ?_
              exact y_ret dX2_canTake_51 rfl (rfl) (by first | (simp_all [b2i_z, b2i, canV]; done) | (simp_all [b2i_z, b2i, canV] <;> grind) | grind [b2i, canV]) (rfl)
            · refine x_iconstv (v := 1) dX2_canTake_46 (by decide) ?_
              refine x_goto 51 dX2_canTake_47 (by decide) ?_
              exact y_ret dX2_canTake_51 rfl (rfl) (by first | (simp_all [b2i_z, b2i, canV]; done) | (simp_all [b2i_z, b2i, canV] <;> grind) | grind [b2i, canV]) (rfl)
theorem y_refusal {o : Nat} (hk : IsMk o) {M : Mem} {V : Row} (hR : RM M o V) (hV : WF V) {a b : Nat} (ha : a < nT V) (hb : b < nT V) : Y 4 mX2_refusal 0 (lent 3 [.ref o, .int (nI a), .int (nI b)]) [] M (some (.int (rsn V a b))) M := by
  have hsa := sh_eq hR hV ha
  have hsb := sh_eq hR hV hb
  refine x_iload_n dX2_refusal_0 rfl ?_
  refine x_aload_n dX2_refusal_1 rfl ?_
  refine y_getI fkX2_40 dX2_refusal_2 (hk.1 0 (by decide)) (hk.2 0 (by decide)) rfl ?_
  refine x_icmp_eq 16 dX2_refusal_5 (by decide) (fun c_5 => ?_) (fun c_5 => ?_)
  · refine x_iconstv (v := 1) dX2_refusal_16 (by decide) ?_
    exact y_ret dX2_refusal_17 rfl (rfl) (by simp_all [b2i_z, b2i, rsn]) (rfl)
  · refine x_iload_n dX2_refusal_8 rfl ?_
    refine x_aload_n dX2_refusal_9 rfl ?_
    refine y_getI fkX2_40 dX2_refusal_10 (hk.1 0 (by decide)) (hk.2 0 (by decide)) rfl ?_
    refine x_icmp_ne 18 dX2_refusal_13 (by decide) (fun c_13 => ?_) (fun c_13 => ?_)
    · refine x_aload_n dX2_refusal_18 rfl ?_
      refine x_iload_n dX2_refusal_19 rfl ?_
      refine y_callV (as := [_]) okX2_hasSoundWare lkX2_93 dX2_refusal_20 rfl (hk.1 0 (by decide)) (hk.2 0 (by decide)) (y_hasSound hk hR hV ha) (by omega) rfl (by simp [Value.category]) (Nat.le_of_ble_eq_true rfl) rfl rfl (cat8 rfl) ?_
      refine x_if_eq 34 dX2_refusal_23 (by decide) (fun c_23 => ?_) (fun c_23 => ?_)
      · refine x_iconstv (v := 2) dX2_refusal_34 (by decide) ?_
        exact y_ret dX2_refusal_35 rfl (rfl) (by simp_all [b2i_z, b2i, rsn]) (rfl)
      · refine x_aload_n dX2_refusal_26 rfl ?_
        refine x_iload_n dX2_refusal_27 rfl ?_
        refine y_callV (as := [_]) okX2_hasSoundWare lkX2_93 dX2_refusal_28 rfl (hk.1 0 (by decide)) (hk.2 0 (by decide)) (y_hasSound hk hR hV hb) (by omega) rfl (by simp [Value.category]) (Nat.le_of_ble_eq_true rfl) rfl rfl (cat8 rfl) ?_
        refine x_if_ne 36 dX2_refusal_31 (by decide) (fun c_31 => ?_) (fun c_31 => ?_)
        · refine x_aload_n dX2_refusal_36 rfl ?_
          refine x_iload_n dX2_refusal_37 rfl ?_
          refine x_iload_n dX2_refusal_38 rfl ?_
          refine y_callV (as := [_, _]) okX2_wantsWareOf lkX2_100 dX2_refusal_39 rfl (hk.1 0 (by decide)) (hk.2 0 (by decide)) (y_wants hk hR hV ha hb) (by omega) rfl (by simp [Value.category]) (Nat.le_of_ble_eq_true rfl) rfl rfl (cat8 rfl) ?_
          refine x_if_ne 47 dX2_refusal_42 (by decide) (fun c_42 => ?_) (fun c_42 => ?_)
          · refine x_aload_n dX2_refusal_47 rfl ?_
            refine x_iload_n dX2_refusal_48 rfl ?_
            refine x_iload_n dX2_refusal_49 rfl ?_
            refine y_callV (as := [_, _]) okX2_wantsWareOf lkX2_100 dX2_refusal_50 rfl (hk.1 0 (by decide)) (hk.2 0 (by decide)) (y_wants hk hR hV hb ha) (by omega) rfl (by simp [Value.category]) (Nat.le_of_ble_eq_true rfl) rfl rfl (cat8 rfl) ?_
            refine x_if_eq 60 dX2_refusal_53 (by decide) (fun c_53 => ?_) (fun c_53 => ?_)
            · refine x_iconstv (v := 4) dX2_refusal_60 (by decide) ?_
              exact y_ret dX2_refusal_61 rfl (rfl) (by simp_all [b2i_z, b2i, rsn]) (rfl)
            · refine x_iconstv (v := 0) dX2_refusal_56 (by decide) ?_
              refine x_goto 61 dX2_refusal_57 (by decide) ?_
              exact y_ret dX2_refusal_61 rfl (rfl) (by simp_all [b2i_z, b2i, rsn]) (rfl)
          · refine x_iconstv (v := 3) dX2_refusal_45 (by decide) ?_
            exact y_ret dX2_refusal_46 rfl (rfl) (by simp_all [b2i_z, b2i, rsn]) (rfl)
        · refine x_iconstv (v := 2) dX2_refusal_34 (by decide) ?_
          exact y_ret dX2_refusal_35 rfl (rfl) (by simp_all [b2i_z, b2i, rsn]) (rfl)
    · refine x_iconstv (v := 1) dX2_refusal_16 (by decide) ?_
      exact y_ret dX2_refusal_17 rfl (rfl) (by simp_all [b2i_z, b2i, rsn]) (rfl)
theorem y_giversOf_loop {o : Nat} (hk : IsMk o) {M : Mem} {V : Row} (hR : RM M o V) (hV : WF V) {t : Nat} (ht : t < nT V) : ∀ (fu i : Nat) (acc x : Int32), i ≤ nT V → nT V - i < fu → x = nI i → acc = gvm V t i → Y 6 mX2_giversOf 4 [some (.ref o), some (.int (nI t)), some (.int acc), some (.int x)] [] M (some (.int (gv V t))) M := by
  have hR0 := hR
  obtain ⟨⟨r7, r8, r9, r10, r11, r12, r13, r14, r15, r2⟩, rk, rt⟩ := hR0
  obtain ⟨hn1, hn2⟩ := WF_n hV
  intro fu
  induction fu with
  | zero => intro i acc x h1 h2; omega
  | succ fu ih =>
    intro i acc x h1 h2 hx ha9
    subst hx
    refine x_iload_n dX2_giversOf_4 rfl ?_
    refine x_aload_n dX2_giversOf_5 rfl ?_
    refine y_getI fkX2_61 dX2_giversOf_6 (hk.1 0 (by decide)) (hk.2 0 (by decide)) rfl ?_
    refine x_icmp_ge 33 dX2_giversOf_9 (by decide) (fun c_9 => ?_) (fun c_9 => ?_)
    · have he := lp_eq hV r7 h1 c_9
      subst he
      refine x_iload_n dX2_giversOf_33 rfl ?_
      exact y_ret dX2_giversOf_34 rfl (rfl) (ha9) (rfl)
    · have hlt := lp_lt hV r7 h1 c_9
      refine x_aload_n dX2_giversOf_12 rfl ?_
      refine x_iload_n dX2_giversOf_13 rfl ?_
      refine x_iload_n dX2_giversOf_14 rfl ?_
      refine y_callV (as := [_, _]) okX2_canTake lkX2_103 dX2_giversOf_15 rfl (hk.1 0 (by decide)) (hk.2 0 (by decide)) (y_canTake hk hR hV ht hlt) (by omega) rfl (by simp [Value.category]) (Nat.le_of_ble_eq_true rfl) rfl rfl (cat8 rfl) ?_
      refine x_if_eq 27 dX2_giversOf_18 (by decide) (fun c_18 => ?_) (fun c_18 => ?_)
      · refine x_iincv (v := 1) dX2_giversOf_27 rfl (by decide) rfl (by decide) ?_
        refine x_goto 4 dX2_giversOf_30 (by decide) ?_
        exact ih (i + 1) _ _ (by omega) (by omega) (by rw [nI_1]) (by simp_all [gvm, b2i_z])
      · refine x_iload_n dX2_giversOf_21 rfl ?_
        refine x_iload_n dX2_giversOf_22 rfl ?_
        refine y_callSN (as := [_, _]) okX5_with nsX2_106 dX2_giversOf_23 rfl (y_with) (by omega) rfl (by simp [Value.category]) (Nat.le_of_ble_eq_true rfl) (cat8 rfl) ?_
        refine x_istore_n dX2_giversOf_26 (by decide) rfl ?_
        refine x_iincv (v := 1) dX2_giversOf_27 rfl (by decide) rfl (by decide) ?_
        refine x_goto 4 dX2_giversOf_30 (by decide) ?_
        exact ih (i + 1) _ _ (by omega) (by omega) (by rw [nI_1]) (by simp_all [gvm, b2i_z])
theorem y_giversOf {o : Nat} (hk : IsMk o) {M : Mem} {V : Row} (hR : RM M o V) (hV : WF V) {t : Nat} (ht : t < nT V) : Y 6 mX2_giversOf 0 (lent 4 [.ref o, .int (nI t)]) [] M (some (.int (gv V t))) M := by
  refine x_iconstv (v := 0) dX2_giversOf_0 (by decide) ?_
  refine x_istore_n dX2_giversOf_1 (by decide) rfl ?_
  refine x_iconstv (v := 0) dX2_giversOf_2 (by decide) ?_
  refine x_istore_n dX2_giversOf_3 (by decide) rfl ?_
  exact y_giversOf_loop hk hR hV ht (nT V + 1) 0 0 0 (Nat.zero_le _) (by omega) rfl rfl
theorem y_nTakers_loop {o : Nat} (hk : IsMk o) {M : Mem} {V : Row} (hR : RM M o V) (hV : WF V) {g : Nat} (hg : g < nT V) : ∀ (fu i : Nat) (acc x : Int32), i ≤ nT V → nT V - i < fu → x = nI i → acc = sumF (fun t => b2i (canV V t g)) i → Y 6 mX2_numberOfTakers 4 [some (.ref o), some (.int (nI g)), some (.int acc), some (.int x)] [] M (some (.int (sumF (fun t => b2i (canV V t g)) (nT V)))) M := by
  have hR0 := hR
  obtain ⟨⟨r7, r8, r9, r10, r11, r12, r13, r14, r15, r2⟩, rk, rt⟩ := hR0
  obtain ⟨hn1, hn2⟩ := WF_n hV
  intro fu
  induction fu with
  | zero => intro i acc x h1 h2; omega
  | succ fu ih =>
    intro i acc x h1 h2 hx ha9
    subst hx
    refine x_iload_n dX2_numberOfTakers_4 rfl ?_
    refine x_aload_n dX2_numberOfTakers_5 rfl ?_
    refine y_getI fkX2_61 dX2_numberOfTakers_6 (hk.1 0 (by decide)) (hk.2 0 (by decide)) rfl ?_
    refine x_icmp_ge 30 dX2_numberOfTakers_9 (by decide) (fun c_9 => ?_) (fun c_9 => ?_)
    · have he := lp_eq hV r7 h1 c_9
      subst he
      refine x_iload_n dX2_numberOfTakers_30 rfl ?_
      exact y_ret dX2_numberOfTakers_31 rfl (rfl) (ha9) (rfl)
    · have hlt := lp_lt hV r7 h1 c_9
      refine x_aload_n dX2_numberOfTakers_12 rfl ?_
      refine x_iload_n dX2_numberOfTakers_13 rfl ?_
      refine x_iload_n dX2_numberOfTakers_14 rfl ?_
      refine y_callV (as := [_, _]) okX2_canTake lkX2_103 dX2_numberOfTakers_15 rfl (hk.1 0 (by decide)) (hk.2 0 (by decide)) (y_canTake hk hR hV hlt hg) (by omega) rfl (by simp [Value.category]) (Nat.le_of_ble_eq_true rfl) rfl rfl (cat8 rfl) ?_
      refine x_if_eq 24 dX2_numberOfTakers_18 (by decide) (fun c_18 => ?_) (fun c_18 => ?_)
      · refine x_iincv (v := 1) dX2_numberOfTakers_24 rfl (by decide) rfl (by decide) ?_
        refine x_goto 4 dX2_numberOfTakers_27 (by decide) ?_
        exact ih (i + 1) _ _ (by omega) (by omega) (by rw [nI_1]) (by simp_all [sumF, b2i_z, b2i])
      · refine x_iincv (v := 1) dX2_numberOfTakers_21 rfl (by decide) rfl (by decide) ?_
        refine x_iincv (v := 1) dX2_numberOfTakers_24 rfl (by decide) rfl (by decide) ?_
        refine x_goto 4 dX2_numberOfTakers_27 (by decide) ?_
        exact ih (i + 1) _ _ (by omega) (by omega) (by rw [nI_1]) (by simp_all [sumF, b2i_z, b2i])
theorem y_nTakers {o : Nat} (hk : IsMk o) {M : Mem} {V : Row} (hR : RM M o V) (hV : WF V) {g : Nat} (hg : g < nT V) : Y 6 mX2_numberOfTakers 0 (lent 4 [.ref o, .int (nI g)]) [] M (some (.int (sumF (fun t => b2i (canV V t g)) (nT V)))) M := by
  refine x_iconstv (v := 0) dX2_numberOfTakers_0 (by decide) ?_
  refine x_istore_n dX2_numberOfTakers_1 (by decide) rfl ?_
  refine x_iconstv (v := 0) dX2_numberOfTakers_2 (by decide) ?_
  refine x_istore_n dX2_numberOfTakers_3 (by decide) rfl ?_
  exact y_nTakers_loop hk hR hV hg (nT V + 1) 0 0 0 (Nat.zero_le _) (by omega) rfl rfl
