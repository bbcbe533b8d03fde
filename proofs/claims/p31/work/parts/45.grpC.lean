theorem y_needs_loop {o : Nat} (hk : IsMk o) {M : Mem} {V : Row} (hR : RM M o V) (hV : WF V)  : ∀ (fu i : Nat) (acc x : Int32), i ≤ nT V → nT V - i < fu → x = nI i → acc = sumF (fun t => bits7 (V (23 + 5 * t))) i → Y 1 mX2_needs 4 [some (.ref o), some (.int acc), some (.int x)] [] M (some (.int (needsV V))) M := by
  have hR0 := hR
  obtain ⟨⟨r7, r8, r9, r10, r11, r12, r13, r14, r15, r2⟩, rk, rt⟩ := hR0
  obtain ⟨hn1, hn2⟩ := WF_n hV
  intro fu
  induction fu with
  | zero => intro i acc x h1 h2; omega
  | succ fu ih =>
    intro i acc x h1 h2 hx ha9
    subst hx
    refine x_iload_n dX2_needs_4 rfl ?_
    refine x_aload_n dX2_needs_5 rfl ?_
    refine y_getI fkX2_61 dX2_needs_6 (hk.1 0 (by decide)) (hk.2 0 (by decide)) rfl ?_
    refine x_icmp_ge 30 dX2_needs_9 (by decide) (fun c_9 => ?_) (fun c_9 => ?_)
    · have he := lp_eq hV r7 h1 c_9
      subst he
      refine x_iload_n dX2_needs_30 rfl ?_
      exact y_ret dX2_needs_31 rfl (rfl) (ha9) (rfl)
    · have hlt := lp_lt hV r7 h1 c_9
      refine x_iload_n dX2_needs_12 rfl ?_
      refine x_aload_n dX2_needs_13 rfl ?_
      refine y_getR fkX2_15 dX2_needs_14 (hk.1 0 (by decide)) (hk.2 0 (by decide)) rfl ?_
      refine x_iload_n dX2_needs_17 rfl ?_
      refine y_iald dX2_needs_18 (hk.1 2 (by decide)) (hk.2 2 (by decide)) (vp_in_nI (n := i) (by omega) (by decide)) ?_
      rw [nI_clamp (n := i) (by omega)]
      rw [(rt i hlt).2.1]
      refine y_callS (as := [_]) okJ6_bitCount_0f7a4 lkX2_126 dX2_needs_19 rfl (y_bitCount) (by omega) rfl (by simp [Value.category]) (Nat.le_of_ble_eq_true rfl) (cat8 rfl) ?_
      rw [bc_bits (vpin_le (hV.2.1 i hlt).2.1 (by decide))]
      refine x_iadd dX2_needs_22 ?_
      refine x_istore_n dX2_needs_23 (by decide) rfl ?_
      refine x_iincv (v := 1) dX2_needs_24 rfl (by decide) rfl (by decide) ?_
      refine x_goto 4 dX2_needs_27 (by decide) ?_
      exact ih (i + 1) _ _ (by omega) (by omega) (by rw [nI_1]) (by first | (simp_all [sumF, ind, b2i_z, b2i]; done) | (simp_all [sumF, ind, b2i_z, b2i] <;> grind))
theorem y_needs {o : Nat} (hk : IsMk o) {M : Mem} {V : Row} (hR : RM M o V) (hV : WF V)  : Y 1 mX2_needs 0 (lent 3 [.ref o]) [] M (some (.int (needsV V))) M := by
  refine x_iconstv (v := 0) dX2_needs_0 (by decide) ?_
  refine x_istore_n dX2_needs_1 (by decide) rfl ?_
  refine x_iconstv (v := 0) dX2_needs_2 (by decide) ?_
  refine x_istore_n dX2_needs_3 (by decide) rfl ?_
  exact y_needs_loop hk hR hV (nT V + 1) 0 0 0 (Nat.zero_le _) (by omega) rfl rfl
theorem y_soundWares_loop {o : Nat} (hk : IsMk o) {M : Mem} {V : Row} (hR : RM M o V) (hV : WF V)  : ∀ (fu i : Nat) (acc x : Int32), i ≤ nT V → nT V - i < fu → x = nI i → acc = sumF (fun t => ind (0 < dli V t)) i → Y 4 mX2_soundWares 4 [some (.ref o), some (.int acc), some (.int x)] [] M (some (.int (soundV V))) M := by
  have hR0 := hR
  obtain ⟨⟨r7, r8, r9, r10, r11, r12, r13, r14, r15, r2⟩, rk, rt⟩ := hR0
  obtain ⟨hn1, hn2⟩ := WF_n hV
  intro fu
  induction fu with
  | zero => intro i acc x h1 h2; omega
  | succ fu ih =>
    intro i acc x h1 h2 hx ha9
    subst hx
    refine x_iload_n dX2_soundWares_4 rfl ?_
    refine x_aload_n dX2_soundWares_5 rfl ?_
    refine y_getI fkX2_61 dX2_soundWares_6 (hk.1 0 (by decide)) (hk.2 0 (by decide)) rfl ?_
    refine x_icmp_ge 29 dX2_soundWares_9 (by decide) (fun c_9 => ?_) (fun c_9 => ?_)
    · have he := lp_eq hV r7 h1 c_9
      subst he
      refine x_iload_n dX2_soundWares_29 rfl ?_
      exact y_ret dX2_soundWares_30 rfl (rfl) (ha9) (rfl)
    · have hlt := lp_lt hV r7 h1 c_9
      refine x_aload_n dX2_soundWares_12 rfl ?_
      refine x_iload_n dX2_soundWares_13 rfl ?_
      refine y_callV (as := [_]) okX2_hasSoundWare lkX2_93 dX2_soundWares_14 rfl (hk.1 0 (by decide)) (hk.2 0 (by decide)) (y_hasSound hk hR hV hlt) (by omega) rfl (by simp [Value.category]) (Nat.le_of_ble_eq_true rfl) rfl rfl (cat8 rfl) ?_
      refine x_if_eq 23 dX2_soundWares_17 (by decide) (fun c_17 => ?_) (fun c_17 => ?_)
      · refine x_iincv (v := 1) dX2_soundWares_23 rfl (by decide) rfl (by decide) ?_
        refine x_goto 4 dX2_soundWares_26 (by decide) ?_
        exact ih (i + 1) _ _ (by omega) (by omega) (by rw [nI_1]) (by first | (simp_all [sumF, ind, b2i_z, b2i]; done) | (simp_all [sumF, ind, b2i_z, b2i] <;> grind))
      · refine x_iincv (v := 1) dX2_soundWares_20 rfl (by decide) rfl (by decide) ?_
        refine x_iincv (v := 1) dX2_soundWares_23 rfl (by decide) rfl (by decide) ?_
        refine x_goto 4 dX2_soundWares_26 (by decide) ?_
        exact ih (i + 1) _ _ (by omega) (by omega) (by rw [nI_1]) (by first | (simp_all [sumF, ind, b2i_z, b2i]; done) | (simp_all [sumF, ind, b2i_z, b2i] <;> grind))
theorem y_soundWares {o : Nat} (hk : IsMk o) {M : Mem} {V : Row} (hR : RM M o V) (hV : WF V)  : Y 4 mX2_soundWares 0 (lent 3 [.ref o]) [] M (some (.int (soundV V))) M := by
  refine x_iconstv (v := 0) dX2_soundWares_0 (by decide) ?_
  refine x_istore_n dX2_soundWares_1 (by decide) rfl ?_
  refine x_iconstv (v := 0) dX2_soundWares_2 (by decide) ?_
  refine x_istore_n dX2_soundWares_3 (by decide) rfl ?_
  exact y_soundWares_loop hk hR hV (nT V + 1) 0 0 0 (Nat.zero_le _) (by omega) rfl rfl
theorem y_spoiltWares_loop {o : Nat} (hk : IsMk o) {M : Mem} {V : Row} (hR : RM M o V) (hV : WF V)  : ∀ (fu i : Nat) (acc x : Int32), i ≤ nT V → nT V - i < fu → x = nI i → acc = sumF (fun t => ind (¬ 0 < dli V t)) i → Y 4 mX2_spoiltWares 4 [some (.ref o), some (.int acc), some (.int x)] [] M (some (.int (spoiltV V))) M := by
  have hR0 := hR
  obtain ⟨⟨r7, r8, r9, r10, r11, r12, r13, r14, r15, r2⟩, rk, rt⟩ := hR0
  obtain ⟨hn1, hn2⟩ := WF_n hV
  intro fu
  induction fu with
  | zero => intro i acc x h1 h2; omega
  | succ fu ih =>
    intro i acc x h1 h2 hx ha9
    subst hx
    refine x_iload_n dX2_spoiltWares_4 rfl ?_
    refine x_aload_n dX2_spoiltWares_5 rfl ?_
    refine y_getI fkX2_61 dX2_spoiltWares_6 (hk.1 0 (by decide)) (hk.2 0 (by decide)) rfl ?_
    refine x_icmp_ge 37 dX2_spoiltWares_9 (by decide) (fun c_9 => ?_) (fun c_9 => ?_)
    · have he := lp_eq hV r7 h1 c_9
      subst he
      refine x_iload_n dX2_spoiltWares_37 rfl ?_
      exact y_ret dX2_spoiltWares_38 rfl (rfl) (ha9) (rfl)
    · have hlt := lp_lt hV r7 h1 c_9
      refine x_aload_n dX2_spoiltWares_12 rfl ?_
      refine x_iload_n dX2_spoiltWares_13 rfl ?_
      refine y_callV (as := [_]) okX2_hasWare lkX2_90 dX2_spoiltWares_14 rfl (hk.1 0 (by decide)) (hk.2 0 (by decide)) (y_hasWare hk hR hV hlt) (by omega) rfl (by simp [Value.category]) (Nat.le_of_ble_eq_true rfl) rfl rfl (cat8 rfl) ?_
      refine x_if_eq 31 dX2_spoiltWares_17 (by decide) (fun c_17 => ?_) (fun c_17 => ?_)
      · exact absurd c_17 (by decide)
      · refine x_aload_n dX2_spoiltWares_20 rfl ?_
        refine x_iload_n dX2_spoiltWares_21 rfl ?_
        refine y_callV (as := [_]) okX2_hasSoundWare lkX2_93 dX2_spoiltWares_22 rfl (hk.1 0 (by decide)) (hk.2 0 (by decide)) (y_hasSound hk hR hV hlt) (by omega) rfl (by simp [Value.category]) (Nat.le_of_ble_eq_true rfl) rfl rfl (cat8 rfl) ?_
        refine x_if_ne 31 dX2_spoiltWares_25 (by decide) (fun c_25 => ?_) (fun c_25 => ?_)
        · refine x_iincv (v := 1) dX2_spoiltWares_31 rfl (by decide) rfl (by decide) ?_
          refine x_goto 4 dX2_spoiltWares_34 (by decide) ?_
          exact ih (i + 1) _ _ (by omega) (by omega) (by rw [nI_1]) (by first | (simp_all [sumF, ind, b2i_z, b2i]; done) | (simp_all [sumF, ind, b2i_z, b2i] <;> grind))
        · refine x_iincv (v := 1) dX2_spoiltWares_28 rfl (by decide) rfl (by decide) ?_
          refine x_iincv (v := 1) dX2_spoiltWares_31 rfl (by decide) rfl (by decide) ?_
          refine x_goto 4 dX2_spoiltWares_34 (by decide) ?_
          exact ih (i + 1) _ _ (by omega) (by omega) (by rw [nI_1]) (by first | (simp_all [sumF, ind, b2i_z, b2i]; done) | (simp_all [sumF, ind, b2i_z, b2i] <;> grind))
theorem y_spoiltWares {o : Nat} (hk : IsMk o) {M : Mem} {V : Row} (hR : RM M o V) (hV : WF V)  : Y 4 mX2_spoiltWares 0 (lent 3 [.ref o]) [] M (some (.int (spoiltV V))) M := by
  refine x_iconstv (v := 0) dX2_spoiltWares_0 (by decide) ?_
  refine x_istore_n dX2_spoiltWares_1 (by decide) rfl ?_
  refine x_iconstv (v := 0) dX2_spoiltWares_2 (by decide) ?_
  refine x_istore_n dX2_spoiltWares_3 (by decide) rfl ?_
  exact y_spoiltWares_loop hk hR hV (nT V + 1) 0 0 0 (Nat.zero_le _) (by omega) rfl rfl
theorem y_daysAll_loop {o : Nat} (hk : IsMk o) {M : Mem} {V : Row} (hR : RM M o V) (hV : WF V)  : ∀ (fu i : Nat) (acc x : Int32), i ≤ nT V → nT V - i < fu → x = nI i → acc = sumF (fun t => dl V t) i → Y 4 mX2_daysLeftOfAll 4 [some (.ref o), some (.int acc), some (.int x)] [] M (some (.int (daysV V))) M := by
  have hR0 := hR
  obtain ⟨⟨r7, r8, r9, r10, r11, r12, r13, r14, r15, r2⟩, rk, rt⟩ := hR0
  obtain ⟨hn1, hn2⟩ := WF_n hV
  intro fu
  induction fu with
  | zero => intro i acc x h1 h2; omega
  | succ fu ih =>
    intro i acc x h1 h2 hx ha9
    subst hx
    refine x_iload_n dX2_daysLeftOfAll_4 rfl ?_
    refine x_aload_n dX2_daysLeftOfAll_5 rfl ?_
    refine y_getI fkX2_61 dX2_daysLeftOfAll_6 (hk.1 0 (by decide)) (hk.2 0 (by decide)) rfl ?_
    refine x_icmp_ge 26 dX2_daysLeftOfAll_9 (by decide) (fun c_9 => ?_) (fun c_9 => ?_)
    · have he := lp_eq hV r7 h1 c_9
      subst he
      refine x_iload_n dX2_daysLeftOfAll_26 rfl ?_
      exact y_ret dX2_daysLeftOfAll_27 rfl (rfl) (ha9) (rfl)
    · have hlt := lp_lt hV r7 h1 c_9
      refine x_iload_n dX2_daysLeftOfAll_12 rfl ?_
      refine x_aload_n dX2_daysLeftOfAll_13 rfl ?_
      refine x_iload_n dX2_daysLeftOfAll_14 rfl ?_
      refine y_callV (as := [_]) okX2_daysLeft lkX2_132 dX2_daysLeftOfAll_15 rfl (hk.1 0 (by decide)) (hk.2 0 (by decide)) (y_daysLeft hk hR hV hlt) (by omega) rfl (by simp [Value.category]) (Nat.le_of_ble_eq_true rfl) rfl rfl (cat8 rfl) ?_
      refine x_iadd dX2_daysLeftOfAll_18 ?_
      refine x_istore_n dX2_daysLeftOfAll_19 (by decide) rfl ?_
      refine x_iincv (v := 1) dX2_daysLeftOfAll_20 rfl (by decide) rfl (by decide) ?_
      refine x_goto 4 dX2_daysLeftOfAll_23 (by decide) ?_
      exact ih (i + 1) _ _ (by omega) (by omega) (by rw [nI_1]) (by first | (simp_all [sumF, ind, b2i_z, b2i]; done) | (simp_all [sumF, ind, b2i_z, b2i] <;> grind))
theorem y_daysAll {o : Nat} (hk : IsMk o) {M : Mem} {V : Row} (hR : RM M o V) (hV : WF V)  : Y 4 mX2_daysLeftOfAll 0 (lent 3 [.ref o]) [] M (some (.int (daysV V))) M := by
  refine x_iconstv (v := 0) dX2_daysLeftOfAll_0 (by decide) ?_
  refine x_istore_n dX2_daysLeftOfAll_1 (by decide) rfl ?_
  refine x_iconstv (v := 0) dX2_daysLeftOfAll_2 (by decide) ?_
  refine x_istore_n dX2_daysLeftOfAll_3 (by decide) rfl ?_
  exact y_daysAll_loop hk hR hV (nT V + 1) 0 0 0 (Nat.zero_le _) (by omega) rfl rfl
theorem y_stuck_loop {o : Nat} (hk : IsMk o) {M : Mem} {V : Row} (hR : RM M o V) (hV : WF V)  : ∀ (fu i : Nat) (acc x : Int32), i ≤ nT V → nT V - i < fu → x = nI i → acc = sumF (fun t => ind (¬ V (23 + 5 * t) = 0 ∧ gv V t = 0)) i → Y 7 mX2_stuckTraders 4 [some (.ref o), some (.int acc), some (.int x)] [] M (some (.int (stuckV V))) M := by
  have hR0 := hR
  obtain ⟨⟨r7, r8, r9, r10, r11, r12, r13, r14, r15, r2⟩, rk, rt⟩ := hR0
  obtain ⟨hn1, hn2⟩ := WF_n hV
  intro fu
  induction fu with
  | zero => intro i acc x h1 h2; omega
  | succ fu ih =>
    intro i acc x h1 h2 hx ha9
    subst hx
    refine x_iload_n dX2_stuckTraders_4 rfl ?_
    refine x_aload_n dX2_stuckTraders_5 rfl ?_
    refine y_getI fkX2_61 dX2_stuckTraders_6 (hk.1 0 (by decide)) (hk.2 0 (by decide)) rfl ?_
    refine x_icmp_ge 38 dX2_stuckTraders_9 (by decide) (fun c_9 => ?_) (fun c_9 => ?_)
    · have he := lp_eq hV r7 h1 c_9
      subst he
      refine x_iload_n dX2_stuckTraders_38 rfl ?_
      exact y_ret dX2_stuckTraders_39 rfl (rfl) (ha9) (rfl)
    · have hlt := lp_lt hV r7 h1 c_9
      refine x_aload_n dX2_stuckTraders_12 rfl ?_
      refine y_getR fkX2_15 dX2_stuckTraders_13 (hk.1 0 (by decide)) (hk.2 0 (by decide)) rfl ?_
      refine x_iload_n dX2_stuckTraders_16 rfl ?_
      refine y_iald dX2_stuckTraders_17 (hk.1 2 (by decide)) (hk.2 2 (by decide)) (vp_in_nI (n := i) (by omega) (by decide)) ?_
      rw [nI_clamp (n := i) (by omega)]
      rw [(rt i hlt).2.1]
      refine x_if_eq 32 dX2_stuckTraders_18 (by decide) (fun c_18 => ?_) (fun c_18 => ?_)
      · refine x_iincv (v := 1) dX2_stuckTraders_32 rfl (by decide) rfl (by decide) ?_
        refine x_goto 4 dX2_stuckTraders_35 (by decide) ?_
        exact ih (i + 1) _ _ (by omega) (by omega) (by rw [nI_1]) (by first | (simp_all [sumF, ind, b2i_z, b2i]; done) | (simp_all [sumF, ind, b2i_z, b2i] <;> grind))
      · refine x_aload_n dX2_stuckTraders_21 rfl ?_
        refine x_iload_n dX2_stuckTraders_22 rfl ?_
        refine y_callV (as := [_]) okX2_giversOf lkX2_135 dX2_stuckTraders_23 rfl (hk.1 0 (by decide)) (hk.2 0 (by decide)) (y_giversOf hk hR hV hlt) (by omega) rfl (by simp [Value.category]) (Nat.le_of_ble_eq_true rfl) rfl rfl (cat8 rfl) ?_
        refine x_if_ne 32 dX2_stuckTraders_26 (by decide) (fun c_26 => ?_) (fun c_26 => ?_)
        · refine x_iincv (v := 1) dX2_stuckTraders_32 rfl (by decide) rfl (by decide) ?_
          refine x_goto 4 dX2_stuckTraders_35 (by decide) ?_
          exact ih (i + 1) _ _ (by omega) (by omega) (by rw [nI_1]) (by first | (simp_all [sumF, ind, b2i_z, b2i]; done) | (simp_all [sumF, ind, b2i_z, b2i] <;> grind))
        · refine x_iincv (v := 1) dX2_stuckTraders_29 rfl (by decide) rfl (by decide) ?_
          refine x_iincv (v := 1) dX2_stuckTraders_32 rfl (by decide) rfl (by decide) ?_
          refine x_goto 4 dX2_stuckTraders_35 (by decide) ?_
          exact ih (i + 1) _ _ (by omega) (by omega) (by rw [nI_1]) (by first | (simp_all [sumF, ind, b2i_z, b2i]; done) | (simp_all [sumF, ind, b2i_z, b2i] <;> grind))
theorem y_stuck {o : Nat} (hk : IsMk o) {M : Mem} {V : Row} (hR : RM M o V) (hV : WF V)  : Y 7 mX2_stuckTraders 0 (lent 3 [.ref o]) [] M (some (.int (stuckV V))) M := by
  refine x_iconstv (v := 0) dX2_stuckTraders_0 (by decide) ?_
  refine x_istore_n dX2_stuckTraders_1 (by decide) rfl ?_
  refine x_iconstv (v := 0) dX2_stuckTraders_2 (by decide) ?_
  refine x_istore_n dX2_stuckTraders_3 (by decide) rfl ?_
  exact y_stuck_loop hk hR hV (nT V + 1) 0 0 0 (Nat.zero_le _) (by omega) rfl rfl
theorem y_waresOfKind_loop {o : Nat} (hk : IsMk o) {M : Mem} {V : Row} (hR : RM M o V) (hV : WF V) {k : Int32}  : ∀ (fu i : Nat) (acc x : Int32), i ≤ nT V → nT V - i < fu → x = nI i → acc = sumF (fun t => ind (V (24 + 5 * t) = k)) i → Y 0 mX2_waresOfKind 4 [some (.ref o), some (.int k), some (.int acc), some (.int x)] [] M (some (.int (waresV V k))) M := by
  have hR0 := hR
  obtain ⟨⟨r7, r8, r9, r10, r11, r12, r13, r14, r15, r2⟩, rk, rt⟩ := hR0
  obtain ⟨hn1, hn2⟩ := WF_n hV
  intro fu
  induction fu with
  | zero => intro i acc x h1 h2; omega
  | succ fu ih =>
    intro i acc x h1 h2 hx ha9
    subst hx
    refine x_iload_n dX2_waresOfKind_4 rfl ?_
    refine x_aload_n dX2_waresOfKind_5 rfl ?_
    refine y_getI fkX2_61 dX2_waresOfKind_6 (hk.1 0 (by decide)) (hk.2 0 (by decide)) rfl ?_
    refine x_icmp_ge 31 dX2_waresOfKind_9 (by decide) (fun c_9 => ?_) (fun c_9 => ?_)
    · have he := lp_eq hV r7 h1 c_9
      subst he
      refine x_iload_n dX2_waresOfKind_31 rfl ?_
      exact y_ret dX2_waresOfKind_32 rfl (rfl) (ha9) (rfl)
    · have hlt := lp_lt hV r7 h1 c_9
      refine x_aload_n dX2_waresOfKind_12 rfl ?_
      refine y_getR fkX2_18 dX2_waresOfKind_13 (hk.1 0 (by decide)) (hk.2 0 (by decide)) rfl ?_
      refine x_iload_n dX2_waresOfKind_16 rfl ?_
      refine y_iald dX2_waresOfKind_17 (hk.1 3 (by decide)) (hk.2 3 (by decide)) (vp_in_nI (n := i) (by omega) (by decide)) ?_
      rw [nI_clamp (n := i) (by omega)]
      rw [(rt i hlt).2.2.1]
      refine x_iload_n dX2_waresOfKind_18 rfl ?_
      refine x_icmp_ne 25 dX2_waresOfKind_19 (by decide) (fun c_19 => ?_) (fun c_19 => ?_)
      · refine x_iincv (v := 1) dX2_waresOfKind_25 rfl (by decide) rfl (by decide) ?_
        refine x_goto 4 dX2_waresOfKind_28 (by decide) ?_
        exact ih (i + 1) _ _ (by omega) (by omega) (by rw [nI_1]) (by first | (simp_all [sumF, ind, b2i_z, b2i]; done) | (simp_all [sumF, ind, b2i_z, b2i] <;> grind))
      · refine x_iincv (v := 1) dX2_waresOfKind_22 rfl (by decide) rfl (by decide) ?_
        refine x_iincv (v := 1) dX2_waresOfKind_25 rfl (by decide) rfl (by decide) ?_
        refine x_goto 4 dX2_waresOfKind_28 (by decide) ?_
        exact ih (i + 1) _ _ (by omega) (by omega) (by rw [nI_1]) (by first | (simp_all [sumF, ind, b2i_z, b2i]; done) | (simp_all [sumF, ind, b2i_z, b2i] <;> grind))
theorem y_waresOfKind {o : Nat} (hk : IsMk o) {M : Mem} {V : Row} (hR : RM M o V) (hV : WF V) {k : Int32}  : Y 0 mX2_waresOfKind 0 (lent 4 [.ref o, .int k]) [] M (some (.int (waresV V k))) M := by
  refine x_iconstv (v := 0) dX2_waresOfKind_0 (by decide) ?_
  refine x_istore_n dX2_waresOfKind_1 (by decide) rfl ?_
  refine x_iconstv (v := 0) dX2_waresOfKind_2 (by decide) ?_
  refine x_istore_n dX2_waresOfKind_3 (by decide) rfl ?_
  exact y_waresOfKind_loop hk hR hV (k := k) (nT V + 1) 0 0 0 (Nat.zero_le _) (by omega) rfl rfl
theorem y_soundWaresOfKind_loop {o : Nat} (hk : IsMk o) {M : Mem} {V : Row} (hR : RM M o V) (hV : WF V) {k : Int32}  : ∀ (fu i : Nat) (acc x : Int32), i ≤ nT V → nT V - i < fu → x = nI i → acc = sumF (fun t => ind (V (24 + 5 * t) = k ∧ 0 < dli V t)) i → Y 4 mX2_soundWaresOfKind 4 [some (.ref o), some (.int k), some (.int acc), some (.int x)] [] M (some (.int (swaresV V k))) M := by
  have hR0 := hR
  obtain ⟨⟨r7, r8, r9, r10, r11, r12, r13, r14, r15, r2⟩, rk, rt⟩ := hR0
  obtain ⟨hn1, hn2⟩ := WF_n hV
  intro fu
  induction fu with
  | zero => intro i acc x h1 h2; omega
  | succ fu ih =>
    intro i acc x h1 h2 hx ha9
    subst hx
    refine x_iload_n dX2_soundWaresOfKind_4 rfl ?_
    refine x_aload_n dX2_soundWaresOfKind_5 rfl ?_
    refine y_getI fkX2_61 dX2_soundWaresOfKind_6 (hk.1 0 (by decide)) (hk.2 0 (by decide)) rfl ?_
    refine x_icmp_ge 39 dX2_soundWaresOfKind_9 (by decide) (fun c_9 => ?_) (fun c_9 => ?_)
    · have he := lp_eq hV r7 h1 c_9
      subst he
      refine x_iload_n dX2_soundWaresOfKind_39 rfl ?_
      exact y_ret dX2_soundWaresOfKind_40 rfl (rfl) (ha9) (rfl)
    · have hlt := lp_lt hV r7 h1 c_9
      refine x_aload_n dX2_soundWaresOfKind_12 rfl ?_
      refine y_getR fkX2_18 dX2_soundWaresOfKind_13 (hk.1 0 (by decide)) (hk.2 0 (by decide)) rfl ?_
      refine x_iload_n dX2_soundWaresOfKind_16 rfl ?_
      refine y_iald dX2_soundWaresOfKind_17 (hk.1 3 (by decide)) (hk.2 3 (by decide)) (vp_in_nI (n := i) (by omega) (by decide)) ?_
      rw [nI_clamp (n := i) (by omega)]
      rw [(rt i hlt).2.2.1]
      refine x_iload_n dX2_soundWaresOfKind_18 rfl ?_
      refine x_icmp_ne 33 dX2_soundWaresOfKind_19 (by decide) (fun c_19 => ?_) (fun c_19 => ?_)
      · refine x_iincv (v := 1) dX2_soundWaresOfKind_33 rfl (by decide) rfl (by decide) ?_
        refine x_goto 4 dX2_soundWaresOfKind_36 (by decide) ?_
        exact ih (i + 1) _ _ (by omega) (by omega) (by rw [nI_1]) (by first | (simp_all [sumF, ind, b2i_z, b2i]; done) | (simp_all [sumF, ind, b2i_z, b2i] <;> grind))
      · refine x_aload_n dX2_soundWaresOfKind_22 rfl ?_
        refine x_iload_n dX2_soundWaresOfKind_23 rfl ?_
        refine y_callV (as := [_]) okX2_hasSoundWare lkX2_93 dX2_soundWaresOfKind_24 rfl (hk.1 0 (by decide)) (hk.2 0 (by decide)) (y_hasSound hk hR hV hlt) (by omega) rfl (by simp [Value.category]) (Nat.le_of_ble_eq_true rfl) rfl rfl (cat8 rfl) ?_
        refine x_if_eq 33 dX2_soundWaresOfKind_27 (by decide) (fun c_27 => ?_) (fun c_27 => ?_)
        · refine x_iincv (v := 1) dX2_soundWaresOfKind_33 rfl (by decide) rfl (by decide) ?_
          refine x_goto 4 dX2_soundWaresOfKind_36 (by decide) ?_
          exact ih (i + 1) _ _ (by omega) (by omega) (by rw [nI_1]) (by first | (simp_all [sumF, ind, b2i_z, b2i]; done) | (simp_all [sumF, ind, b2i_z, b2i] <;> grind))
        · refine x_iincv (v := 1) dX2_soundWaresOfKind_30 rfl (by decide) rfl (by decide) ?_
          refine x_iincv (v := 1) dX2_soundWaresOfKind_33 rfl (by decide) rfl (by decide) ?_
          refine x_goto 4 dX2_soundWaresOfKind_36 (by decide) ?_
          exact ih (i + 1) _ _ (by omega) (by omega) (by rw [nI_1]) (by first | (simp_all [sumF, ind, b2i_z, b2i]; done) | (simp_all [sumF, ind, b2i_z, b2i] <;> grind))
theorem y_soundWaresOfKind {o : Nat} (hk : IsMk o) {M : Mem} {V : Row} (hR : RM M o V) (hV : WF V) {k : Int32}  : Y 4 mX2_soundWaresOfKind 0 (lent 4 [.ref o, .int k]) [] M (some (.int (swaresV V k))) M := by
  refine x_iconstv (v := 0) dX2_soundWaresOfKind_0 (by decide) ?_
  refine x_istore_n dX2_soundWaresOfKind_1 (by decide) rfl ?_
  refine x_iconstv (v := 0) dX2_soundWaresOfKind_2 (by decide) ?_
  refine x_istore_n dX2_soundWaresOfKind_3 (by decide) rfl ?_
  exact y_soundWaresOfKind_loop hk hR hV (k := k) (nT V + 1) 0 0 0 (Nat.zero_le _) (by omega) rfl rfl
theorem y_tradersWhoMake_loop {o : Nat} (hk : IsMk o) {M : Mem} {V : Row} (hR : RM M o V) (hV : WF V) {k : Int32}  : ∀ (fu i : Nat) (acc x : Int32), i ≤ nT V → nT V - i < fu → x = nI i → acc = sumF (fun t => ind (V (22 + 5 * t) = k)) i → Y 0 mX2_tradersWhoMake 4 [some (.ref o), some (.int k), some (.int acc), some (.int x)] [] M (some (.int (makeV V k))) M := by
  have hR0 := hR
  obtain ⟨⟨r7, r8, r9, r10, r11, r12, r13, r14, r15, r2⟩, rk, rt⟩ := hR0
  obtain ⟨hn1, hn2⟩ := WF_n hV
  intro fu
  induction fu with
  | zero => intro i acc x h1 h2; omega
  | succ fu ih =>
    intro i acc x h1 h2 hx ha9
    subst hx
    refine x_iload_n dX2_tradersWhoMake_4 rfl ?_
    refine x_aload_n dX2_tradersWhoMake_5 rfl ?_
    refine y_getI fkX2_61 dX2_tradersWhoMake_6 (hk.1 0 (by decide)) (hk.2 0 (by decide)) rfl ?_
    refine x_icmp_ge 31 dX2_tradersWhoMake_9 (by decide) (fun c_9 => ?_) (fun c_9 => ?_)
    · have he := lp_eq hV r7 h1 c_9
      subst he
      refine x_iload_n dX2_tradersWhoMake_31 rfl ?_
      exact y_ret dX2_tradersWhoMake_32 rfl (rfl) (ha9) (rfl)
    · have hlt := lp_lt hV r7 h1 c_9
      refine x_aload_n dX2_tradersWhoMake_12 rfl ?_
      refine y_getR fkX2_9 dX2_tradersWhoMake_13 (hk.1 0 (by decide)) (hk.2 0 (by decide)) rfl ?_
      refine x_iload_n dX2_tradersWhoMake_16 rfl ?_
      refine y_iald dX2_tradersWhoMake_17 (hk.1 1 (by decide)) (hk.2 1 (by decide)) (vp_in_nI (n := i) (by omega) (by decide)) ?_
      rw [nI_clamp (n := i) (by omega)]
      rw [(rt i hlt).1]
      refine x_iload_n dX2_tradersWhoMake_18 rfl ?_
      refine x_icmp_ne 25 dX2_tradersWhoMake_19 (by decide) (fun c_19 => ?_) (fun c_19 => ?_)
      · refine x_iincv (v := 1) dX2_tradersWhoMake_25 rfl (by decide) rfl (by decide) ?_
        refine x_goto 4 dX2_tradersWhoMake_28 (by decide) ?_
        exact ih (i + 1) _ _ (by omega) (by omega) (by rw [nI_1]) (by first | (simp_all [sumF, ind, b2i_z, b2i]; done) | (simp_all [sumF, ind, b2i_z, b2i] <;> grind))
      · refine x_iincv (v := 1) dX2_tradersWhoMake_22 rfl (by decide) rfl (by decide) ?_
        refine x_iincv (v := 1) dX2_tradersWhoMake_25 rfl (by decide) rfl (by decide) ?_
        refine x_goto 4 dX2_tradersWhoMake_28 (by decide) ?_
        exact ih (i + 1) _ _ (by omega) (by omega) (by rw [nI_1]) (by first | (simp_all [sumF, ind, b2i_z, b2i]; done) | (simp_all [sumF, ind, b2i_z, b2i] <;> grind))
theorem y_tradersWhoMake {o : Nat} (hk : IsMk o) {M : Mem} {V : Row} (hR : RM M o V) (hV : WF V) {k : Int32}  : Y 0 mX2_tradersWhoMake 0 (lent 4 [.ref o, .int k]) [] M (some (.int (makeV V k))) M := by
  refine x_iconstv (v := 0) dX2_tradersWhoMake_0 (by decide) ?_
  refine x_istore_n dX2_tradersWhoMake_1 (by decide) rfl ?_
  refine x_iconstv (v := 0) dX2_tradersWhoMake_2 (by decide) ?_
  refine x_istore_n dX2_tradersWhoMake_3 (by decide) rfl ?_
  exact y_tradersWhoMake_loop hk hR hV (k := k) (nT V + 1) 0 0 0 (Nat.zero_le _) (by omega) rfl rfl
theorem y_tradersWhoWant_loop {o : Nat} (hk : IsMk o) {M : Mem} {V : Row} (hR : RM M o V) (hV : WF V) {k : Int32}  : ∀ (fu i : Nat) (acc x : Int32), i ≤ nT V → nT V - i < fu → x = nI i → acc = sumF (fun t => ind (V (23 + 5 * t) >>> (k &&& 31) &&& 1 = 1)) i → Y 1 mX2_tradersWhoWant 4 [some (.ref o), some (.int k), some (.int acc), some (.int x)] [] M (some (.int (wantV V k))) M := by
  have hR0 := hR
  obtain ⟨⟨r7, r8, r9, r10, r11, r12, r13, r14, r15, r2⟩, rk, rt⟩ := hR0
  obtain ⟨hn1, hn2⟩ := WF_n hV
  intro fu
  induction fu with
  | zero => intro i acc x h1 h2; omega
  | succ fu ih =>
    intro i acc x h1 h2 hx ha9
    subst hx
    refine x_iload_n dX2_tradersWhoWant_4 rfl ?_
    refine x_aload_n dX2_tradersWhoWant_5 rfl ?_
    refine y_getI fkX2_61 dX2_tradersWhoWant_6 (hk.1 0 (by decide)) (hk.2 0 (by decide)) rfl ?_
    refine x_icmp_ge 34 dX2_tradersWhoWant_9 (by decide) (fun c_9 => ?_) (fun c_9 => ?_)
    · have he := lp_eq hV r7 h1 c_9
      subst he
      refine x_iload_n dX2_tradersWhoWant_34 rfl ?_
      exact y_ret dX2_tradersWhoWant_35 rfl (rfl) (ha9) (rfl)
    · have hlt := lp_lt hV r7 h1 c_9
      refine x_aload_n dX2_tradersWhoWant_12 rfl ?_
      refine y_getR fkX2_15 dX2_tradersWhoWant_13 (hk.1 0 (by decide)) (hk.2 0 (by decide)) rfl ?_
      refine x_iload_n dX2_tradersWhoWant_16 rfl ?_
      refine y_iald dX2_tradersWhoWant_17 (hk.1 2 (by decide)) (hk.2 2 (by decide)) (vp_in_nI (n := i) (by omega) (by decide)) ?_
      rw [nI_clamp (n := i) (by omega)]
      rw [(rt i hlt).2.1]
      refine x_iload_n dX2_tradersWhoWant_18 rfl ?_
      refine y_callSN (as := [_, _]) okX5_holds nsX2_96 dX2_tradersWhoWant_19 rfl (y_holds) (by omega) rfl (by simp [Value.category]) (Nat.le_of_ble_eq_true rfl) (cat8 rfl) ?_
      refine x_if_eq 28 dX2_tradersWhoWant_22 (by decide) (fun c_22 => ?_) (fun c_22 => ?_)
      · refine x_iincv (v := 1) dX2_tradersWhoWant_28 rfl (by decide) rfl (by decide) ?_
        refine x_goto 4 dX2_tradersWhoWant_31 (by decide) ?_
        have h01 := and1 (V (23 + 5 * i) >>> (k &&& 31))
        exact ih (i + 1) _ _ (by omega) (by omega) (by rw [nI_1]) (by rcases h01 with q | q <;> simp_all [sumF, ind, b2i_z, b2i])
      · refine x_iincv (v := 1) dX2_tradersWhoWant_25 rfl (by decide) rfl (by decide) ?_
        refine x_iincv (v := 1) dX2_tradersWhoWant_28 rfl (by decide) rfl (by decide) ?_
        refine x_goto 4 dX2_tradersWhoWant_31 (by decide) ?_
        have h01 := and1 (V (23 + 5 * i) >>> (k &&& 31))
        exact ih (i + 1) _ _ (by omega) (by omega) (by rw [nI_1]) (by rcases h01 with q | q <;> simp_all [sumF, ind, b2i_z, b2i])
theorem y_tradersWhoWant {o : Nat} (hk : IsMk o) {M : Mem} {V : Row} (hR : RM M o V) (hV : WF V) {k : Int32}  : Y 1 mX2_tradersWhoWant 0 (lent 4 [.ref o, .int k]) [] M (some (.int (wantV V k))) M := by
  refine x_iconstv (v := 0) dX2_tradersWhoWant_0 (by decide) ?_
  refine x_istore_n dX2_tradersWhoWant_1 (by decide) rfl ?_
  refine x_iconstv (v := 0) dX2_tradersWhoWant_2 (by decide) ?_
  refine x_istore_n dX2_tradersWhoWant_3 (by decide) rfl ?_
  exact y_tradersWhoWant_loop hk hR hV (k := k) (nT V + 1) 0 0 0 (Nat.zero_le _) (by omega) rfl rfl
theorem y_needsMet_loop {o : Nat} (hk : IsMk o) {M : Mem} {V : Row} (hR : RM M o V) (hV : WF V) : ∀ (fu i : Nat) (acc x : Int32), i ≤ 6 → 6 - i < fu → x = nI i → acc = sumF (fun k => V (11 + 2 * k)) i → Y 0 mX2_needsMet 4 [some (.ref o), some (.int acc), some (.int x)] [] M (some (.int (V 2))) M := by
  have hR0 := hR
  obtain ⟨⟨r7, r8, r9, r10, r11, r12, r13, r14, r15, r2⟩, rk, rt⟩ := hR0
  obtain ⟨hn1, hn2⟩ := WF_n hV
  have h6 : ∀ i : Nat, i ≤ 6 → (6 : Int32) ≤ nI i → i = 6 := by
    intro i h1 h2
    have := (nI_leI (a := 6) (b := i) (by decide) (by omega)).mp h2
    omega
  have h6l : ∀ i : Nat, i ≤ 6 → ¬ (6 : Int32) ≤ nI i → i < 6 := by
    intro i h1 h2
    rcases Nat.lt_or_ge i 6 with q | q
    · exact q
    · exact absurd (nI_le (a := 6) (b := i) q (by omega)) h2
  intro fu
  induction fu with
  | zero => intro i acc x h1 h2; omega
  | succ fu ih =>
    intro i acc x h1 h2 hx ha9
    subst hx
    refine x_iload_n dX2_needsMet_4 rfl ?_
    refine x_bipushv (v := 6) dX2_needsMet_5 (by decide) ?_
    refine x_icmp_ge 25 dX2_needsMet_7 (by decide) (fun c_7 => ?_) (fun c_7 => ?_)
    · have he := h6 i h1 c_7
      subst he
      refine x_iload_n dX2_needsMet_25 rfl ?_
      exact y_ret dX2_needsMet_26 rfl (rfl) (by rw [ha9, r2]; simp [sumF, mSum]) (rfl)
    · have hlt := h6l i h1 c_7
      refine x_iload_n dX2_needsMet_10 rfl ?_
      refine x_aload_n dX2_needsMet_11 rfl ?_
      refine y_getR fkX2_30 dX2_needsMet_12 (hk.1 0 (by decide)) (hk.2 0 (by decide)) rfl ?_
      refine x_iload_n dX2_needsMet_15 rfl ?_
      refine y_iald dX2_needsMet_16 (hk.1 7 (by decide)) (hk.2 7 (by decide)) (vp_in_nI (n := i) (by omega) (by decide)) ?_
      rw [nI_clamp (n := i) (by omega)]
      rw [(rk i hlt).2]
      refine x_iadd dX2_needsMet_17 ?_
      refine x_istore_n dX2_needsMet_18 (by decide) rfl ?_
      refine x_iincv (v := 1) dX2_needsMet_19 rfl (by decide) rfl (by decide) ?_
      refine x_goto 4 dX2_needsMet_22 (by decide) ?_
      exact ih (i + 1) _ _ (by omega) (by omega) (by rw [nI_1]) (by simp_all [sumF])
theorem y_needsMet {o : Nat} (hk : IsMk o) {M : Mem} {V : Row} (hR : RM M o V) (hV : WF V) : Y 0 mX2_needsMet 0 (lent 3 [.ref o]) [] M (some (.int (V 2))) M := by
  refine x_iconstv (v := 0) dX2_needsMet_0 (by decide) ?_
  refine x_istore_n dX2_needsMet_1 (by decide) rfl ?_
  refine x_iconstv (v := 0) dX2_needsMet_2 (by decide) ?_
  refine x_istore_n dX2_needsMet_3 (by decide) rfl ?_
  exact y_needsMet_loop hk hR hV 7 0 0 0 (by omega) (by omega) rfl rfl
