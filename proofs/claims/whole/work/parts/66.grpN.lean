theorem r_next {M : Mem} {P : Row} {n : Nat} (hP : Pad P n) (hM : PadR M P n) {j : Nat} (hj : j < 2 ^ 31) : Y 0 mX6_next 0 (lent 2 [.ref 84, .int (nI j)]) [] M (some (.int (chF P n j))) M := by
  have hM0 := hM
  obtain ⟨hl, hs⟩ := hM0
  have hn := hP.1
  by_cases h : j < n
  · have e : chF P n j = P j := by unfold chF; exact if_pos h
    rw [e]
    skip
    refine x_iload_n dX6_next_0 rfl ?_
    refine x_aload_n dX6_next_1 rfl ?_
    refine y_getI fkX6_130 dX6_next_2 (by decide) rfl rfl ?_
    rw [hl]
    refine x_icmp_ge 17 dX6_next_5 (by decide) (fun c_5 => ?_) (fun c_5 => ?_)
    · exact absurd c_5 (nI_ge h (by omega))
    · refine x_aload_n dX6_next_8 rfl ?_
      refine y_getR fkX6_22 dX6_next_9 (by decide) rfl rfl ?_
      refine x_iload_n dX6_next_12 rfl ?_
      refine y_ialdn (j := j) dX6_next_13 (by decide) rfl (ixN (by omega)) (by omega) ?_
      rw [hs j h]
      refine x_goto 18 dX6_next_14 (by decide) ?_
      exact y_ret dX6_next_18 rfl (rfl) (rfl) (rfl)
  · have e : chF P n j = 0 := by unfold chF; exact if_neg h
    rw [e]
    skip
    refine x_iload_n dX6_next_0 rfl ?_
    refine x_aload_n dX6_next_1 rfl ?_
    refine y_getI fkX6_130 dX6_next_2 (by decide) rfl rfl ?_
    rw [hl]
    refine x_icmp_ge 17 dX6_next_5 (by decide) (fun c_5 => ?_) (fun c_5 => ?_)
    · refine x_iconstv (v := 0) dX6_next_17 (by decide) ?_
      exact y_ret dX6_next_18 rfl (rfl) (rfl) (rfl)
    · exact absurd (nI_le (a := n) (b := j) (by omega) (by omega)) c_5
theorem r_bt_loop {M : Mem} {P : Row} {n : Nat} (hP : Pad P n) (hM : PadR M P n) {i : Nat} (hi : i ≤ n) : ∀ (k a : Nat) (lw : Int32), a + k = n → 0 < lw → Y 1 mX6_behindTrader 43 [some (.ref 84), some (.int (nI i)), some (.int (nI a)), some (.int lw)] [] M (some (.int (btI (if wend P n k a lw = i + 2 then .inl (i + 2) else .inr (wend P n k a lw))))) M := by
  have hM0 := hM
  obtain ⟨hl, hs⟩ := hM0
  have hn := hP.1
  intro k
  induction k with
  | zero =>
    intro a lw ha h0
    have hnx := r_next hP hM (j := a) (by omega)
    have hc : ¬ lw ≤ chF P n a := fun q => by have := ch_pos h0 q; omega
    rw [wend]
    by_cases he : a = i + 2
    · rw [if_pos he]
      subst he
      skip
      refine x_aload_n dX6_behindTrader_43 rfl ?_
      refine x_iload_n dX6_behindTrader_44 rfl ?_
      refine y_callV (as := [_]) okX6_next lkX6_133 dX6_behindTrader_45 rfl (by decide) rfl (hnx) (by omega) rfl (by simp [Value.category]) (Nat.le_of_ble_eq_true rfl) rfl rfl (cat8 rfl) ?_
      refine x_iload_n dX6_behindTrader_48 rfl ?_
      refine x_bipushv (v := 53) dX6_behindTrader_49 (by decide) ?_
      refine y_callS (as := [_, _, _]) okX6_in lkX6_51 dX6_behindTrader_51 rfl (r_in) (by omega) rfl (by simp [Value.category]) (Nat.le_of_ble_eq_true rfl) (cat8 rfl) ?_
      refine x_if_eq 71 dX6_behindTrader_54 (by decide) (fun c_54 => ?_) (fun c_54 => ?_)
      · refine x_iload_n dX6_behindTrader_71 rfl ?_
        refine x_iload_n dX6_behindTrader_72 rfl ?_
        refine x_iconstv (v := 2) dX6_behindTrader_73 (by decide) ?_
        refine x_iadd dX6_behindTrader_74 ?_
        rw [show (2 : Int32) = nI 2 from rfl, nI_add]
        refine x_icmp_ne 84 dX6_behindTrader_75 (by decide) (fun c_75 => ?_) (fun c_75 => ?_)
        · exact absurd rfl c_75
        · refine x_iconstv (v := -1) dX6_behindTrader_78 (by decide) ?_
          refine x_iload_n dX6_behindTrader_79 rfl ?_
          refine x_isub dX6_behindTrader_80 ?_
          refine x_goto 85 dX6_behindTrader_81 (by decide) ?_
          exact y_ret dX6_behindTrader_85 rfl (rfl) (rfl) (rfl)
      · exact absurd (by rw [decide_eq_false hc]; rfl) c_54
    · rw [if_neg he]
      skip
      refine x_aload_n dX6_behindTrader_43 rfl ?_
      refine x_iload_n dX6_behindTrader_44 rfl ?_
      refine y_callV (as := [_]) okX6_next lkX6_133 dX6_behindTrader_45 rfl (by decide) rfl (hnx) (by omega) rfl (by simp [Value.category]) (Nat.le_of_ble_eq_true rfl) rfl rfl (cat8 rfl) ?_
      refine x_iload_n dX6_behindTrader_48 rfl ?_
      refine x_bipushv (v := 53) dX6_behindTrader_49 (by decide) ?_
      refine y_callS (as := [_, _, _]) okX6_in lkX6_51 dX6_behindTrader_51 rfl (r_in) (by omega) rfl (by simp [Value.category]) (Nat.le_of_ble_eq_true rfl) (cat8 rfl) ?_
      refine x_if_eq 71 dX6_behindTrader_54 (by decide) (fun c_54 => ?_) (fun c_54 => ?_)
      · refine x_iload_n dX6_behindTrader_71 rfl ?_
        refine x_iload_n dX6_behindTrader_72 rfl ?_
        refine x_iconstv (v := 2) dX6_behindTrader_73 (by decide) ?_
        refine x_iadd dX6_behindTrader_74 ?_
        rw [show (2 : Int32) = nI 2 from rfl, nI_add]
        refine x_icmp_ne 84 dX6_behindTrader_75 (by decide) (fun c_75 => ?_) (fun c_75 => ?_)
        · refine x_iload_n dX6_behindTrader_84 rfl ?_
          exact y_ret dX6_behindTrader_85 rfl (rfl) (rfl) (rfl)
        · exact absurd ((nI_eq (by omega) (by omega)).mp c_75) he
      · exact absurd (by rw [decide_eq_false hc]; rfl) c_54
  | succ k ih =>
    intro a lw ha h0
    have hlt : a < n := by omega
    have hnx := r_next hP hM (j := a) (by omega)
    have ech : chF P n a = P a := by unfold chF; exact if_pos hlt
    rw [ech] at hnx
    rw [wend]
    by_cases hc : lw ≤ P a ∧ P a ≤ 53
    · rw [if_pos hc]
      have h1 : 0 < P a + 1 := by
        obtain ⟨c, hc1, hc2⟩ := code_in (hP.2 a hlt)
        rw [hc2, nI_1]
        exact nI_lt (a := 0) (by omega) (by omega)
      skip
      refine x_aload_n dX6_behindTrader_43 rfl ?_
      refine x_iload_n dX6_behindTrader_44 rfl ?_
      refine y_callV (as := [_]) okX6_next lkX6_133 dX6_behindTrader_45 rfl (by decide) rfl (hnx) (by omega) rfl (by simp [Value.category]) (Nat.le_of_ble_eq_true rfl) rfl rfl (cat8 rfl) ?_
      refine x_iload_n dX6_behindTrader_48 rfl ?_
      refine x_bipushv (v := 53) dX6_behindTrader_49 (by decide) ?_
      refine y_callS (as := [_, _, _]) okX6_in lkX6_51 dX6_behindTrader_51 rfl (r_in) (by omega) rfl (by simp [Value.category]) (Nat.le_of_ble_eq_true rfl) (cat8 rfl) ?_
      refine x_if_eq 71 dX6_behindTrader_54 (by decide) (fun c_54 => ?_) (fun c_54 => ?_)
      · exact absurd c_54 (by simp [b2i, hc])
      · refine x_aload_n dX6_behindTrader_57 rfl ?_
        refine x_iload_n dX6_behindTrader_58 rfl ?_
        refine y_callV (as := [_]) okX6_next lkX6_133 dX6_behindTrader_59 rfl (by decide) rfl (hnx) (by omega) rfl (by simp [Value.category]) (Nat.le_of_ble_eq_true rfl) rfl rfl (cat8 rfl) ?_
        refine x_iconstv (v := 1) dX6_behindTrader_62 (by decide) ?_
        refine x_iadd dX6_behindTrader_63 ?_
        refine x_istore_n dX6_behindTrader_64 (by decide) rfl ?_
        refine x_iincv (v := 1) dX6_behindTrader_65 rfl (by decide) rfl (by decide) ?_
        refine x_goto 43 dX6_behindTrader_68 (by decide) ?_
        rw [nI_1]
        exact ih (a + 1) _ (by omega) h1
    · rw [if_neg hc]
      by_cases he : a = i + 2
      · rw [if_pos he]
        subst he
        skip
        refine x_aload_n dX6_behindTrader_43 rfl ?_
        refine x_iload_n dX6_behindTrader_44 rfl ?_
        refine y_callV (as := [_]) okX6_next lkX6_133 dX6_behindTrader_45 rfl (by decide) rfl (hnx) (by omega) rfl (by simp [Value.category]) (Nat.le_of_ble_eq_true rfl) rfl rfl (cat8 rfl) ?_
        refine x_iload_n dX6_behindTrader_48 rfl ?_
        refine x_bipushv (v := 53) dX6_behindTrader_49 (by decide) ?_
        refine y_callS (as := [_, _, _]) okX6_in lkX6_51 dX6_behindTrader_51 rfl (r_in) (by omega) rfl (by simp [Value.category]) (Nat.le_of_ble_eq_true rfl) (cat8 rfl) ?_
        refine x_if_eq 71 dX6_behindTrader_54 (by decide) (fun c_54 => ?_) (fun c_54 => ?_)
        · refine x_iload_n dX6_behindTrader_71 rfl ?_
          refine x_iload_n dX6_behindTrader_72 rfl ?_
          refine x_iconstv (v := 2) dX6_behindTrader_73 (by decide) ?_
          refine x_iadd dX6_behindTrader_74 ?_
          rw [show (2 : Int32) = nI 2 from rfl, nI_add]
          refine x_icmp_ne 84 dX6_behindTrader_75 (by decide) (fun c_75 => ?_) (fun c_75 => ?_)
          · exact absurd rfl c_75
          · refine x_iconstv (v := -1) dX6_behindTrader_78 (by decide) ?_
            refine x_iload_n dX6_behindTrader_79 rfl ?_
            refine x_isub dX6_behindTrader_80 ?_
            refine x_goto 85 dX6_behindTrader_81 (by decide) ?_
            exact y_ret dX6_behindTrader_85 rfl (rfl) (rfl) (rfl)
        · exact absurd (by simp only [b2i_z]; grind) c_54
      · rw [if_neg he]
        skip
        refine x_aload_n dX6_behindTrader_43 rfl ?_
        refine x_iload_n dX6_behindTrader_44 rfl ?_
        refine y_callV (as := [_]) okX6_next lkX6_133 dX6_behindTrader_45 rfl (by decide) rfl (hnx) (by omega) rfl (by simp [Value.category]) (Nat.le_of_ble_eq_true rfl) rfl rfl (cat8 rfl) ?_
        refine x_iload_n dX6_behindTrader_48 rfl ?_
        refine x_bipushv (v := 53) dX6_behindTrader_49 (by decide) ?_
        refine y_callS (as := [_, _, _]) okX6_in lkX6_51 dX6_behindTrader_51 rfl (r_in) (by omega) rfl (by simp [Value.category]) (Nat.le_of_ble_eq_true rfl) (cat8 rfl) ?_
        refine x_if_eq 71 dX6_behindTrader_54 (by decide) (fun c_54 => ?_) (fun c_54 => ?_)
        · refine x_iload_n dX6_behindTrader_71 rfl ?_
          refine x_iload_n dX6_behindTrader_72 rfl ?_
          refine x_iconstv (v := 2) dX6_behindTrader_73 (by decide) ?_
          refine x_iadd dX6_behindTrader_74 ?_
          rw [show (2 : Int32) = nI 2 from rfl, nI_add]
          refine x_icmp_ne 84 dX6_behindTrader_75 (by decide) (fun c_75 => ?_) (fun c_75 => ?_)
          · refine x_iload_n dX6_behindTrader_84 rfl ?_
            exact y_ret dX6_behindTrader_85 rfl (rfl) (rfl) (rfl)
          · exact absurd ((nI_eq (by omega) (by omega)).mp c_75) he
        · exact absurd (by simp only [b2i_z]; grind) c_54
theorem r_bt {M : Mem} {P : Row} {n : Nat} (hP : Pad P n) (hM : PadR M P n) {i : Nat} (hi : i ≤ n) : Y 2 mX6_behindTrader 0 (lent 4 [.ref 84, .int (nI i)]) [] M (some (.int (btI (btE P n i)))) M := by
  have hM0 := hM
  obtain ⟨hl, hs⟩ := hM0
  have hn := hP.1
  have h1 := r_next hP hM (j := i) (by omega)
  have h2 := r_next hP hM (j := i + 1) (by omega)
  unfold btE
  by_cases c0 : 48 ≤ chF P n i ∧ chF P n i ≤ 53
  · rw [if_neg (Classical.not_not.mpr c0)]
    have hi1 : i < n := ch_pos (lw := 48) (by decide) c0.1
    by_cases c1 : chF P n (i + 1) = 62
    · rw [if_neg (Classical.not_not.mpr c1)]
      have hi2 : i + 1 < n := ch_pos (lw := 62) (by decide) (by rw [c1]; exact Int32.le_refl _)
      have h3 := (r_bt_loop hP hM hi (n - (i + 2)) (i + 2) 48 (by omega) (by decide)).more (d' := 2) (by omega)
      skip
      refine x_aload_n dX6_behindTrader_0 rfl ?_
      refine x_iload_n dX6_behindTrader_1 rfl ?_
      refine y_callV (as := [_]) okX6_next lkX6_133 dX6_behindTrader_2 rfl (by decide) rfl (h1) (by omega) rfl (by simp [Value.category]) (Nat.le_of_ble_eq_true rfl) rfl rfl (cat8 rfl) ?_
      refine x_bipushv (v := 48) dX6_behindTrader_5 (by decide) ?_
      refine x_bipushv (v := 53) dX6_behindTrader_7 (by decide) ?_
      refine y_callS (as := [_, _, _]) okX6_in lkX6_51 dX6_behindTrader_9 rfl (r_in) (by omega) rfl (by simp [Value.category]) (Nat.le_of_ble_eq_true rfl) (cat8 rfl) ?_
      refine x_if_ne 19 dX6_behindTrader_12 (by decide) (fun c_12 => ?_) (fun c_12 => ?_)
      · refine x_aload_n dX6_behindTrader_19 rfl ?_
        refine x_iload_n dX6_behindTrader_20 rfl ?_
        refine x_iconstv (v := 1) dX6_behindTrader_21 (by decide) ?_
        refine x_iadd dX6_behindTrader_22 ?_
        rw [nI_1]
        refine y_callV (as := [_]) okX6_next lkX6_133 dX6_behindTrader_23 rfl (by decide) rfl (h2) (by omega) rfl (by simp [Value.category]) (Nat.le_of_ble_eq_true rfl) rfl rfl (cat8 rfl) ?_
        refine x_bipushv (v := 62) dX6_behindTrader_26 (by decide) ?_
        refine x_icmp_eq 36 dX6_behindTrader_28 (by decide) (fun c_28 => ?_) (fun c_28 => ?_)
        · refine x_iload_n dX6_behindTrader_36 rfl ?_
          refine x_iconstv (v := 2) dX6_behindTrader_37 (by decide) ?_
          refine x_iadd dX6_behindTrader_38 ?_
          rw [show (2 : Int32) = nI 2 from rfl, nI_add]
          refine x_istore_n dX6_behindTrader_39 (by decide) rfl ?_
          refine x_bipushv (v := 48) dX6_behindTrader_40 (by decide) ?_
          refine x_istore_n dX6_behindTrader_42 (by decide) rfl ?_
          exact h3
        · exact absurd c1 c_28
      · exact absurd (b2i_z.mp c_12) (by simp [c0])
    · rw [if_pos c1]
      skip
      refine x_aload_n dX6_behindTrader_0 rfl ?_
      refine x_iload_n dX6_behindTrader_1 rfl ?_
      refine y_callV (as := [_]) okX6_next lkX6_133 dX6_behindTrader_2 rfl (by decide) rfl (h1) (by omega) rfl (by simp [Value.category]) (Nat.le_of_ble_eq_true rfl) rfl rfl (cat8 rfl) ?_
      refine x_bipushv (v := 48) dX6_behindTrader_5 (by decide) ?_
      refine x_bipushv (v := 53) dX6_behindTrader_7 (by decide) ?_
      refine y_callS (as := [_, _, _]) okX6_in lkX6_51 dX6_behindTrader_9 rfl (r_in) (by omega) rfl (by simp [Value.category]) (Nat.le_of_ble_eq_true rfl) (cat8 rfl) ?_
      refine x_if_ne 19 dX6_behindTrader_12 (by decide) (fun c_12 => ?_) (fun c_12 => ?_)
      · refine x_aload_n dX6_behindTrader_19 rfl ?_
        refine x_iload_n dX6_behindTrader_20 rfl ?_
        refine x_iconstv (v := 1) dX6_behindTrader_21 (by decide) ?_
        refine x_iadd dX6_behindTrader_22 ?_
        rw [nI_1]
        refine y_callV (as := [_]) okX6_next lkX6_133 dX6_behindTrader_23 rfl (by decide) rfl (h2) (by omega) rfl (by simp [Value.category]) (Nat.le_of_ble_eq_true rfl) rfl rfl (cat8 rfl) ?_
        refine x_bipushv (v := 62) dX6_behindTrader_26 (by decide) ?_
        refine x_icmp_eq 36 dX6_behindTrader_28 (by decide) (fun c_28 => ?_) (fun c_28 => ?_)
        · exact absurd c_28 c1
        · refine x_bipushv (v := -2) dX6_behindTrader_31 (by decide) ?_
          refine x_iload_n dX6_behindTrader_33 rfl ?_
          refine x_isub dX6_behindTrader_34 ?_
          exact y_ret dX6_behindTrader_35 rfl (rfl) (neg2) (rfl)
      · exact absurd (b2i_z.mp c_12) (by simp [c0])
  · rw [if_pos c0]
    skip
    refine x_aload_n dX6_behindTrader_0 rfl ?_
    refine x_iload_n dX6_behindTrader_1 rfl ?_
    refine y_callV (as := [_]) okX6_next lkX6_133 dX6_behindTrader_2 rfl (by decide) rfl (h1) (by omega) rfl (by simp [Value.category]) (Nat.le_of_ble_eq_true rfl) rfl rfl (cat8 rfl) ?_
    refine x_bipushv (v := 48) dX6_behindTrader_5 (by decide) ?_
    refine x_bipushv (v := 53) dX6_behindTrader_7 (by decide) ?_
    refine y_callS (as := [_, _, _]) okX6_in lkX6_51 dX6_behindTrader_9 rfl (r_in) (by omega) rfl (by simp [Value.category]) (Nat.le_of_ble_eq_true rfl) (cat8 rfl) ?_
    refine x_if_ne 19 dX6_behindTrader_12 (by decide) (fun c_12 => ?_) (fun c_12 => ?_)
    · exact absurd (by simp only [b2i_z]; grind) c_12
    · refine x_iconstv (v := -1) dX6_behindTrader_15 (by decide) ?_
      refine x_iload_n dX6_behindTrader_16 rfl ?_
      refine x_isub dX6_behindTrader_17 ?_
      exact y_ret dX6_behindTrader_18 rfl (rfl) (rfl) (rfl)
theorem upd_upd {M : Mem} {a i : Nat} {x y : Int32} : updM (updM M a i x) a i y = updM M a i y := by
  funext k j
  simp only [updM]
  grind
theorem PadR_told {M : Mem} {P : Row} {n : Nat} (hM : PadR M P n) {x : Int32} : PadR (updM M 84 16 x) P n := ⟨by rw [updM_at, if_neg (by decide)]; exact hM.1, fun j hj => by rw [updM_ne (by decide)]; exact hM.2 j hj⟩
theorem r_fo_loop {M : Mem} {P : Row} {n : Nat} (hP : Pad P n) (hM : PadR M P n) : ∀ (f i t : Nat), i ≤ n → n - i < f → Y 3 mX6_faultOfTraders 9 [some (.ref 84), some (.int (nI i)), some (.int 1)] [] (updM M 84 16 (nI t)) (some (.int (ftR P n f i t).1)) (updM M 84 16 (nI (ftR P n f i t).2)) := by
  have hM0 := hM
  obtain ⟨hl, hs⟩ := hM0
  have hn := hP.1
  intro f
  induction f with
  | zero => intro i t h1 h2; omega
  | succ f ih =>
    intro i t h1 h2
    have hbt := r_bt hP (PadR_told hM (x := nI t)) h1
    obtain ⟨sp1, sp2⟩ := btE_spec (P := P) (n := n) (i := i)
    rw [ftR]
    cases hb : btE P n i with
    | inl p =>
      have hp := (sp1 p hb).2 h1
      rw [hb, show btI (.inl p) = -1 - nI p from rfl] at hbt
      obtain ⟨g1, g2⟩ := neg1 (p := p) (by omega)
      skip
      refine x_iload_n dX6_faultOfTraders_9 rfl ?_
      refine x_if_eq 83 dX6_faultOfTraders_10 (by decide) (fun c_10 => ?_) (fun c_10 => ?_)
      · exact absurd c_10 (by decide)
      · refine x_aload_n dX6_faultOfTraders_13 rfl ?_
        refine x_iload_n dX6_faultOfTraders_14 rfl ?_
        refine y_callV (as := [_]) okX6_behindTrader lkX6_139 dX6_faultOfTraders_15 rfl (by decide) rfl (hbt) (by omega) rfl (by simp [Value.category]) (Nat.le_of_ble_eq_true rfl) rfl rfl (cat8 rfl) ?_
        refine x_istore_n dX6_faultOfTraders_18 (by decide) rfl ?_
        refine x_iload_n dX6_faultOfTraders_19 rfl ?_
        refine x_if_ge 27 dX6_faultOfTraders_20 (by decide) (fun c_20 => ?_) (fun c_20 => ?_)
        · exact absurd (Int32.lt_of_lt_of_le g1 c_20) (by simp)
        · refine x_iconstv (v := -1) dX6_faultOfTraders_23 (by decide) ?_
          refine x_iload_n dX6_faultOfTraders_24 rfl ?_
          refine x_isub dX6_faultOfTraders_25 ?_
          exact y_ret dX6_faultOfTraders_26 rfl (rfl) (g2) (rfl)
    | inr e =>
      obtain ⟨he1, he2⟩ := sp2 e hb
      rw [hb, show btI (.inr e) = nI e from rfl] at hbt
      have hend : ∀ x : Int32, Y 3 mX6_faultOfTraders 9 [some (.ref 84), some (.int x), some (.int 0)] [] (updM M 84 16 (nI (t + 1))) (some (.int (-4))) (updM M 84 16 (nI (t + 1))) := by
        intro x
        skip
        refine x_iload_n dX6_faultOfTraders_9 rfl ?_
        refine x_if_eq 83 dX6_faultOfTraders_10 (by decide) (fun c_10 => ?_) (fun c_10 => ?_)
        · refine x_bipushv (v := -4) dX6_faultOfTraders_83 (by decide) ?_
          exact y_ret dX6_faultOfTraders_85 rfl (rfl) (rfl) (rfl)
        · exact absurd c_10 (by decide)
      by_cases hlt : e < n
      · simp only [if_pos hlt]
        have hpe : updM M 84 16 (nI (t + 1)) 89 e = P e := by rw [updM_ne (by decide)]; exact hs e hlt
        by_cases h44 : P e = 44
        · simp only [if_pos h44]
          have hi := ih (e + 1) (t + 1) (by omega) (by omega)
          skip
          refine x_iload_n dX6_faultOfTraders_9 rfl ?_
          refine x_if_eq 83 dX6_faultOfTraders_10 (by decide) (fun c_10 => ?_) (fun c_10 => ?_)
          · exact absurd c_10 (by decide)
          · refine x_aload_n dX6_faultOfTraders_13 rfl ?_
            refine x_iload_n dX6_faultOfTraders_14 rfl ?_
            refine y_callV (as := [_]) okX6_behindTrader lkX6_139 dX6_faultOfTraders_15 rfl (by decide) rfl (hbt) (by omega) rfl (by simp [Value.category]) (Nat.le_of_ble_eq_true rfl) rfl rfl (cat8 rfl) ?_
            refine x_istore_n dX6_faultOfTraders_18 (by decide) rfl ?_
            refine x_iload_n dX6_faultOfTraders_19 rfl ?_
            refine x_if_ge 27 dX6_faultOfTraders_20 (by decide) (fun c_20 => ?_) (fun c_20 => ?_)
            · refine x_aload_n dX6_faultOfTraders_27 rfl ?_
              refine x_dup_r dX6_faultOfTraders_28 ?_
              refine y_getI fkX6_136 dX6_faultOfTraders_29 (by decide) rfl rfl ?_
              rw [show updM M 84 16 (nI t) 84 16 = nI t from by simp [updM]]
              refine x_iconstv (v := 1) dX6_faultOfTraders_32 (by decide) ?_
              refine x_iadd dX6_faultOfTraders_33 ?_
              refine y_putI fkX6_136 dX6_faultOfTraders_34 (by decide) rfl rfl rfl rfl rfl ?_
              rw [nI_1, show updM (updM M 84 16 (nI t)) 84 16 (nI (t + 1)) = updM M 84 16 (nI (t + 1)) from upd_upd]
              refine x_iload_n dX6_faultOfTraders_37 rfl ?_
              refine x_aload_n dX6_faultOfTraders_38 rfl ?_
              refine y_getI fkX6_130 dX6_faultOfTraders_39 (by decide) rfl rfl ?_
              rw [show updM M 84 16 (nI (t + 1)) 84 7 = nI n from by rw [updM_at, if_neg (by decide)]; exact hl]
              refine x_icmp_ge 49 dX6_faultOfTraders_42 (by decide) (fun c_42 => ?_) (fun c_42 => ?_)
              · exact absurd c_42 (nI_ge hlt (by omega))
              · refine x_iconstv (v := 1) dX6_faultOfTraders_45 (by decide) ?_
                refine x_goto 50 dX6_faultOfTraders_46 (by decide) ?_
                refine x_istore_n dX6_faultOfTraders_50 (by decide) rfl ?_
                refine x_iload_n dX6_faultOfTraders_51 rfl ?_
                refine x_if_eq 68 dX6_faultOfTraders_52 (by decide) (fun c_52 => ?_) (fun c_52 => ?_)
                · exact absurd c_52 (by decide)
                · refine x_aload_n dX6_faultOfTraders_55 rfl ?_
                  refine y_getR fkX6_22 dX6_faultOfTraders_56 (by decide) rfl rfl ?_
                  refine x_iload_n dX6_faultOfTraders_59 rfl ?_
                  refine y_ialdn (j := e) dX6_faultOfTraders_60 (by decide) rfl (ixN (by omega)) (by omega) ?_
                  rw [hpe]
                  refine x_bipushv (v := 44) dX6_faultOfTraders_61 (by decide) ?_
                  refine x_icmp_eq 68 dX6_faultOfTraders_63 (by decide) (fun c_63 => ?_) (fun c_63 => ?_)
                  · refine x_iload_n dX6_faultOfTraders_68 rfl ?_
                    refine x_iload_n dX6_faultOfTraders_69 rfl ?_
                    refine x_if_eq 77 dX6_faultOfTraders_70 (by decide) (fun c_70 => ?_) (fun c_70 => ?_)
                    · exact absurd c_70 (by decide)
                    · refine x_iconstv (v := 1) dX6_faultOfTraders_73 (by decide) ?_
                      refine x_goto 78 dX6_faultOfTraders_74 (by decide) ?_
                      refine x_iadd dX6_faultOfTraders_78 ?_
                      rw [show nI e + 1 = nI (e + 1) from nI_1 e]
                      refine x_istore_n dX6_faultOfTraders_79 (by decide) rfl ?_
                      refine x_goto 9 dX6_faultOfTraders_80 (by decide) ?_
                      exact hi
                  · exact absurd h44 c_63
            · exact absurd (nI_pos' (by omega)) c_20
        · simp only [if_neg h44]
          skip
          refine x_iload_n dX6_faultOfTraders_9 rfl ?_
          refine x_if_eq 83 dX6_faultOfTraders_10 (by decide) (fun c_10 => ?_) (fun c_10 => ?_)
          · exact absurd c_10 (by decide)
          · refine x_aload_n dX6_faultOfTraders_13 rfl ?_
            refine x_iload_n dX6_faultOfTraders_14 rfl ?_
            refine y_callV (as := [_]) okX6_behindTrader lkX6_139 dX6_faultOfTraders_15 rfl (by decide) rfl (hbt) (by omega) rfl (by simp [Value.category]) (Nat.le_of_ble_eq_true rfl) rfl rfl (cat8 rfl) ?_
            refine x_istore_n dX6_faultOfTraders_18 (by decide) rfl ?_
            refine x_iload_n dX6_faultOfTraders_19 rfl ?_
            refine x_if_ge 27 dX6_faultOfTraders_20 (by decide) (fun c_20 => ?_) (fun c_20 => ?_)
            · refine x_aload_n dX6_faultOfTraders_27 rfl ?_
              refine x_dup_r dX6_faultOfTraders_28 ?_
              refine y_getI fkX6_136 dX6_faultOfTraders_29 (by decide) rfl rfl ?_
              rw [show updM M 84 16 (nI t) 84 16 = nI t from by simp [updM]]
              refine x_iconstv (v := 1) dX6_faultOfTraders_32 (by decide) ?_
              refine x_iadd dX6_faultOfTraders_33 ?_
              refine y_putI fkX6_136 dX6_faultOfTraders_34 (by decide) rfl rfl rfl rfl rfl ?_
              rw [nI_1, show updM (updM M 84 16 (nI t)) 84 16 (nI (t + 1)) = updM M 84 16 (nI (t + 1)) from upd_upd]
              refine x_iload_n dX6_faultOfTraders_37 rfl ?_
              refine x_aload_n dX6_faultOfTraders_38 rfl ?_
              refine y_getI fkX6_130 dX6_faultOfTraders_39 (by decide) rfl rfl ?_
              rw [show updM M 84 16 (nI (t + 1)) 84 7 = nI n from by rw [updM_at, if_neg (by decide)]; exact hl]
              refine x_icmp_ge 49 dX6_faultOfTraders_42 (by decide) (fun c_42 => ?_) (fun c_42 => ?_)
              · exact absurd c_42 (nI_ge hlt (by omega))
              · refine x_iconstv (v := 1) dX6_faultOfTraders_45 (by decide) ?_
                refine x_goto 50 dX6_faultOfTraders_46 (by decide) ?_
                refine x_istore_n dX6_faultOfTraders_50 (by decide) rfl ?_
                refine x_iload_n dX6_faultOfTraders_51 rfl ?_
                refine x_if_eq 68 dX6_faultOfTraders_52 (by decide) (fun c_52 => ?_) (fun c_52 => ?_)
                · exact absurd c_52 (by decide)
                · refine x_aload_n dX6_faultOfTraders_55 rfl ?_
                  refine y_getR fkX6_22 dX6_faultOfTraders_56 (by decide) rfl rfl ?_
                  refine x_iload_n dX6_faultOfTraders_59 rfl ?_
                  refine y_ialdn (j := e) dX6_faultOfTraders_60 (by decide) rfl (ixN (by omega)) (by omega) ?_
                  rw [hpe]
                  refine x_bipushv (v := 44) dX6_faultOfTraders_61 (by decide) ?_
                  refine x_icmp_eq 68 dX6_faultOfTraders_63 (by decide) (fun c_63 => ?_) (fun c_63 => ?_)
                  · exact absurd c_63 h44
                  · refine x_iload_n dX6_faultOfTraders_66 rfl ?_
                    exact y_ret dX6_faultOfTraders_67 rfl (rfl) (rfl) (rfl)
            · exact absurd (nI_pos' (by omega)) c_20
      · simp only [if_neg hlt]
        skip
        refine x_iload_n dX6_faultOfTraders_9 rfl ?_
        refine x_if_eq 83 dX6_faultOfTraders_10 (by decide) (fun c_10 => ?_) (fun c_10 => ?_)
        · exact absurd c_10 (by decide)
        · refine x_aload_n dX6_faultOfTraders_13 rfl ?_
          refine x_iload_n dX6_faultOfTraders_14 rfl ?_
          refine y_callV (as := [_]) okX6_behindTrader lkX6_139 dX6_faultOfTraders_15 rfl (by decide) rfl (hbt) (by omega) rfl (by simp [Value.category]) (Nat.le_of_ble_eq_true rfl) rfl rfl (cat8 rfl) ?_
          refine x_istore_n dX6_faultOfTraders_18 (by decide) rfl ?_
          refine x_iload_n dX6_faultOfTraders_19 rfl ?_
          refine x_if_ge 27 dX6_faultOfTraders_20 (by decide) (fun c_20 => ?_) (fun c_20 => ?_)
          · refine x_aload_n dX6_faultOfTraders_27 rfl ?_
            refine x_dup_r dX6_faultOfTraders_28 ?_
            refine y_getI fkX6_136 dX6_faultOfTraders_29 (by decide) rfl rfl ?_
            rw [show updM M 84 16 (nI t) 84 16 = nI t from by simp [updM]]
            refine x_iconstv (v := 1) dX6_faultOfTraders_32 (by decide) ?_
            refine x_iadd dX6_faultOfTraders_33 ?_
            refine y_putI fkX6_136 dX6_faultOfTraders_34 (by decide) rfl rfl rfl rfl rfl ?_
            rw [nI_1, show updM (updM M 84 16 (nI t)) 84 16 (nI (t + 1)) = updM M 84 16 (nI (t + 1)) from upd_upd]
            refine x_iload_n dX6_faultOfTraders_37 rfl ?_
            refine x_aload_n dX6_faultOfTraders_38 rfl ?_
            refine y_getI fkX6_130 dX6_faultOfTraders_39 (by decide) rfl rfl ?_
            rw [show updM M 84 16 (nI (t + 1)) 84 7 = nI n from by rw [updM_at, if_neg (by decide)]; exact hl]
            refine x_icmp_ge 49 dX6_faultOfTraders_42 (by decide) (fun c_42 => ?_) (fun c_42 => ?_)
            · refine x_iconstv (v := 0) dX6_faultOfTraders_49 (by decide) ?_
              refine x_istore_n dX6_faultOfTraders_50 (by decide) rfl ?_
              refine x_iload_n dX6_faultOfTraders_51 rfl ?_
              refine x_if_eq 68 dX6_faultOfTraders_52 (by decide) (fun c_52 => ?_) (fun c_52 => ?_)
              · refine x_iload_n dX6_faultOfTraders_68 rfl ?_
                refine x_iload_n dX6_faultOfTraders_69 rfl ?_
                refine x_if_eq 77 dX6_faultOfTraders_70 (by decide) (fun c_70 => ?_) (fun c_70 => ?_)
                · refine x_iconstv (v := 0) dX6_faultOfTraders_77 (by decide) ?_
                  refine x_iadd dX6_faultOfTraders_78 ?_
                  refine x_istore_n dX6_faultOfTraders_79 (by decide) rfl ?_
                  refine x_goto 9 dX6_faultOfTraders_80 (by decide) ?_
                  exact hend _
                · exact absurd c_70 (by decide)
              · exact absurd c_52 (by decide)
            · exact absurd (nI_le (a := n) (b := e) (by omega) (by omega)) c_42
          · exact absurd (nI_pos' (by omega)) c_20
theorem r_fo {M : Mem} {P : Row} {n : Nat} (hP : Pad P n) (hM : PadR M P n) : Y 3 mX6_faultOfTraders 0 (lent 3 [.ref 84]) [] M (some (.int ((ftR P n (n + 1) 0 0).1))) (updM M 84 16 (nI (ftR P n (n + 1) 0 0).2)) := by
  have h := r_fo_loop hP hM (n + 1) 0 0 (by omega) (by omega)
  refine x_iconstv (v := 0) dX6_faultOfTraders_0 (by decide) ?_
  refine x_istore_n dX6_faultOfTraders_1 (by decide) rfl ?_
  refine x_aload_n dX6_faultOfTraders_2 rfl ?_
  refine x_iconstv (v := 0) dX6_faultOfTraders_3 (by decide) ?_
  refine y_putI fkX6_136 dX6_faultOfTraders_4 (by decide) rfl rfl rfl rfl rfl ?_
  refine x_iconstv (v := 1) dX6_faultOfTraders_7 (by decide) ?_
  refine x_istore_n dX6_faultOfTraders_8 (by decide) rfl ?_
  exact h
theorem r_fd_loop {M : Mem} {P : Row} {n : Nat} (hP : Pad P n) (hM : PadR M P n) : ∀ (f i : Nat) (l2 : Option Value), i ≤ n → n - i < f → Y 1 mX6_faultOfDays 2 [some (.ref 84), some (.int (nI i)), l2] [] M (some (.int (fdR P n f i))) M := by
  have hM0 := hM
  obtain ⟨hl, hs⟩ := hM0
  have hn := hP.1
  intro f
  induction f with
  | zero => intro i l2 h1 h2; omega
  | succ f ih =>
    intro i l2 hi hf
    rw [fdR]
    by_cases hlt : i < n
    · have h1 := r_next hP hM (j := i + 1) (by omega)
      have h2 := r_next hP hM (j := i + 2) (by omega)
      rw [if_pos hlt]
      by_cases e1 : P i = 120
      · rw [if_pos e1]
        by_cases e2 : 48 ≤ chF P n (i + 1) ∧ chF P n (i + 1) ≤ 54
        · rw [if_neg (Classical.not_not.mpr e2)]
          by_cases e3 : ¬ (48 ≤ chF P n (i + 2) ∧ chF P n (i + 2) ≤ 54) ∨ chF P n (i + 2) = chF P n (i + 1)
          · rw [if_pos e3]
            skip
            refine x_iload_n dX6_faultOfDays_2 rfl ?_
            refine x_aload_n dX6_faultOfDays_3 rfl ?_
            refine y_getI fkX6_130 dX6_faultOfDays_4 (by decide) rfl rfl ?_
            rw [hl]
            refine x_icmp_ge 111 dX6_faultOfDays_7 (by decide) (fun c_7 => ?_) (fun c_7 => ?_)
            · exact absurd c_7 (nI_ge hlt (by omega))
            · refine x_aload_n dX6_faultOfDays_10 rfl ?_
              refine y_getR fkX6_22 dX6_faultOfDays_11 (by decide) rfl rfl ?_
              refine x_iload_n dX6_faultOfDays_14 rfl ?_
              refine y_ialdn (j := i) dX6_faultOfDays_15 (by decide) rfl (ixN (by omega)) (by omega) ?_
              rw [hs i hlt]
              refine x_istore_n dX6_faultOfDays_16 (by decide) rfl ?_
              refine x_iload_n dX6_faultOfDays_17 rfl ?_
              refine x_bipushv (v := 120) dX6_faultOfDays_18 (by decide) ?_
              refine x_icmp_ne 88 dX6_faultOfDays_20 (by decide) (fun c_20 => ?_) (fun c_20 => ?_)
              · exact absurd e1 c_20
              · refine x_aload_n dX6_faultOfDays_23 rfl ?_
                refine x_iload_n dX6_faultOfDays_24 rfl ?_
                refine x_iconstv (v := 1) dX6_faultOfDays_25 (by decide) ?_
                refine x_iadd dX6_faultOfDays_26 ?_
                rw [nI_1]
                refine y_callV (as := [_]) okX6_next lkX6_133 dX6_faultOfDays_27 rfl (by decide) rfl (h1) (by omega) rfl (by simp [Value.category]) (Nat.le_of_ble_eq_true rfl) rfl rfl (cat8 rfl) ?_
                refine x_bipushv (v := 48) dX6_faultOfDays_30 (by decide) ?_
                refine x_bipushv (v := 54) dX6_faultOfDays_32 (by decide) ?_
                refine y_callS (as := [_, _, _]) okX6_in lkX6_51 dX6_faultOfDays_34 rfl (r_in) (by omega) rfl (by simp [Value.category]) (Nat.le_of_ble_eq_true rfl) (cat8 rfl) ?_
                refine x_if_ne 44 dX6_faultOfDays_37 (by decide) (fun c_37 => ?_) (fun c_37 => ?_)
                · refine x_aload_n dX6_faultOfDays_44 rfl ?_
                  refine x_iload_n dX6_faultOfDays_45 rfl ?_
                  refine x_iconstv (v := 2) dX6_faultOfDays_46 (by decide) ?_
                  refine x_iadd dX6_faultOfDays_47 ?_
                  rw [show (2 : Int32) = nI 2 from rfl, nI_add]
                  refine y_callV (as := [_]) okX6_next lkX6_133 dX6_faultOfDays_48 rfl (by decide) rfl (h2) (by omega) rfl (by simp [Value.category]) (Nat.le_of_ble_eq_true rfl) rfl rfl (cat8 rfl) ?_
                  refine x_bipushv (v := 48) dX6_faultOfDays_51 (by decide) ?_
                  refine x_bipushv (v := 54) dX6_faultOfDays_53 (by decide) ?_
                  refine y_callS (as := [_, _, _]) okX6_in lkX6_51 dX6_faultOfDays_55 rfl (r_in) (by omega) rfl (by simp [Value.category]) (Nat.le_of_ble_eq_true rfl) (cat8 rfl) ?_
                  refine x_if_eq 78 dX6_faultOfDays_58 (by decide) (fun c_58 => ?_) (fun c_58 => ?_)
                  · refine x_iload_n dX6_faultOfDays_78 rfl ?_
                    refine x_iconstv (v := 2) dX6_faultOfDays_79 (by decide) ?_
                    refine x_iadd dX6_faultOfDays_80 ?_
                    exact y_ret dX6_faultOfDays_81 rfl (rfl) (by rw [show (2 : Int32) = nI 2 from rfl, nI_add]) (rfl)
                  · refine x_aload_n dX6_faultOfDays_61 rfl ?_
                    refine x_iload_n dX6_faultOfDays_62 rfl ?_
                    refine x_iconstv (v := 2) dX6_faultOfDays_63 (by decide) ?_
                    refine x_iadd dX6_faultOfDays_64 ?_
                    rw [show (2 : Int32) = nI 2 from rfl, nI_add]
                    refine y_callV (as := [_]) okX6_next lkX6_133 dX6_faultOfDays_65 rfl (by decide) rfl (h2) (by omega) rfl (by simp [Value.category]) (Nat.le_of_ble_eq_true rfl) rfl rfl (cat8 rfl) ?_
                    refine x_aload_n dX6_faultOfDays_68 rfl ?_
                    refine x_iload_n dX6_faultOfDays_69 rfl ?_
                    refine x_iconstv (v := 1) dX6_faultOfDays_70 (by decide) ?_
                    refine x_iadd dX6_faultOfDays_71 ?_
                    rw [nI_1]
                    refine y_callV (as := [_]) okX6_next lkX6_133 dX6_faultOfDays_72 rfl (by decide) rfl (h1) (by omega) rfl (by simp [Value.category]) (Nat.le_of_ble_eq_true rfl) rfl rfl (cat8 rfl) ?_
                    refine x_icmp_ne 82 dX6_faultOfDays_75 (by decide) (fun c_75 => ?_) (fun c_75 => ?_)
                    · refine x_iincv (v := 3) dX6_faultOfDays_82 rfl (by decide) rfl (by decide) ?_
                      refine x_goto 108 dX6_faultOfDays_85 (by decide) ?_
                      refine x_goto 2 dX6_faultOfDays_108 (by decide) ?_
                      exfalso
                      simp only [b2i_z] at c_58
                      grind
                    · refine x_iload_n dX6_faultOfDays_78 rfl ?_
                      refine x_iconstv (v := 2) dX6_faultOfDays_79 (by decide) ?_
                      refine x_iadd dX6_faultOfDays_80 ?_
                      exact y_ret dX6_faultOfDays_81 rfl (rfl) (by rw [show (2 : Int32) = nI 2 from rfl, nI_add]) (rfl)
                · exact absurd (b2i_z.mp c_37) (by simp [e2])
          · rw [if_neg e3]
            have hi2 : i + 2 < n := ch_pos (P := P) (lw := 48) (by decide) (by grind)
            skip
            refine x_iload_n dX6_faultOfDays_2 rfl ?_
            refine x_aload_n dX6_faultOfDays_3 rfl ?_
            refine y_getI fkX6_130 dX6_faultOfDays_4 (by decide) rfl rfl ?_
            rw [hl]
            refine x_icmp_ge 111 dX6_faultOfDays_7 (by decide) (fun c_7 => ?_) (fun c_7 => ?_)
            · exact absurd c_7 (nI_ge hlt (by omega))
            · refine x_aload_n dX6_faultOfDays_10 rfl ?_
              refine y_getR fkX6_22 dX6_faultOfDays_11 (by decide) rfl rfl ?_
              refine x_iload_n dX6_faultOfDays_14 rfl ?_
              refine y_ialdn (j := i) dX6_faultOfDays_15 (by decide) rfl (ixN (by omega)) (by omega) ?_
              rw [hs i hlt]
              refine x_istore_n dX6_faultOfDays_16 (by decide) rfl ?_
              refine x_iload_n dX6_faultOfDays_17 rfl ?_
              refine x_bipushv (v := 120) dX6_faultOfDays_18 (by decide) ?_
              refine x_icmp_ne 88 dX6_faultOfDays_20 (by decide) (fun c_20 => ?_) (fun c_20 => ?_)
              · exact absurd e1 c_20
              · refine x_aload_n dX6_faultOfDays_23 rfl ?_
                refine x_iload_n dX6_faultOfDays_24 rfl ?_
                refine x_iconstv (v := 1) dX6_faultOfDays_25 (by decide) ?_
                refine x_iadd dX6_faultOfDays_26 ?_
                rw [nI_1]
                refine y_callV (as := [_]) okX6_next lkX6_133 dX6_faultOfDays_27 rfl (by decide) rfl (h1) (by omega) rfl (by simp [Value.category]) (Nat.le_of_ble_eq_true rfl) rfl rfl (cat8 rfl) ?_
                refine x_bipushv (v := 48) dX6_faultOfDays_30 (by decide) ?_
                refine x_bipushv (v := 54) dX6_faultOfDays_32 (by decide) ?_
                refine y_callS (as := [_, _, _]) okX6_in lkX6_51 dX6_faultOfDays_34 rfl (r_in) (by omega) rfl (by simp [Value.category]) (Nat.le_of_ble_eq_true rfl) (cat8 rfl) ?_
                refine x_if_ne 44 dX6_faultOfDays_37 (by decide) (fun c_37 => ?_) (fun c_37 => ?_)
                · refine x_aload_n dX6_faultOfDays_44 rfl ?_
                  refine x_iload_n dX6_faultOfDays_45 rfl ?_
                  refine x_iconstv (v := 2) dX6_faultOfDays_46 (by decide) ?_
                  refine x_iadd dX6_faultOfDays_47 ?_
                  rw [show (2 : Int32) = nI 2 from rfl, nI_add]
                  refine y_callV (as := [_]) okX6_next lkX6_133 dX6_faultOfDays_48 rfl (by decide) rfl (h2) (by omega) rfl (by simp [Value.category]) (Nat.le_of_ble_eq_true rfl) rfl rfl (cat8 rfl) ?_
                  refine x_bipushv (v := 48) dX6_faultOfDays_51 (by decide) ?_
                  refine x_bipushv (v := 54) dX6_faultOfDays_53 (by decide) ?_
                  refine y_callS (as := [_, _, _]) okX6_in lkX6_51 dX6_faultOfDays_55 rfl (r_in) (by omega) rfl (by simp [Value.category]) (Nat.le_of_ble_eq_true rfl) (cat8 rfl) ?_
                  refine x_if_eq 78 dX6_faultOfDays_58 (by decide) (fun c_58 => ?_) (fun c_58 => ?_)
                  · exfalso
                    rw [b2i_z] at c_58
                    grind
                  · refine x_aload_n dX6_faultOfDays_61 rfl ?_
                    refine x_iload_n dX6_faultOfDays_62 rfl ?_
                    refine x_iconstv (v := 2) dX6_faultOfDays_63 (by decide) ?_
                    refine x_iadd dX6_faultOfDays_64 ?_
                    rw [show (2 : Int32) = nI 2 from rfl, nI_add]
                    refine y_callV (as := [_]) okX6_next lkX6_133 dX6_faultOfDays_65 rfl (by decide) rfl (h2) (by omega) rfl (by simp [Value.category]) (Nat.le_of_ble_eq_true rfl) rfl rfl (cat8 rfl) ?_
                    refine x_aload_n dX6_faultOfDays_68 rfl ?_
                    refine x_iload_n dX6_faultOfDays_69 rfl ?_
                    refine x_iconstv (v := 1) dX6_faultOfDays_70 (by decide) ?_
                    refine x_iadd dX6_faultOfDays_71 ?_
                    rw [nI_1]
                    refine y_callV (as := [_]) okX6_next lkX6_133 dX6_faultOfDays_72 rfl (by decide) rfl (h1) (by omega) rfl (by simp [Value.category]) (Nat.le_of_ble_eq_true rfl) rfl rfl (cat8 rfl) ?_
                    refine x_icmp_ne 82 dX6_faultOfDays_75 (by decide) (fun c_75 => ?_) (fun c_75 => ?_)
                    · refine x_iincv (v := 3) dX6_faultOfDays_82 rfl (by decide) rfl (by decide) ?_
                      refine x_goto 108 dX6_faultOfDays_85 (by decide) ?_
                      refine x_goto 2 dX6_faultOfDays_108 (by decide) ?_
                      rw [show (3 : Int32) = nI 3 from rfl, nI_add]
                      exact ih (i + 3) _ (by omega) (by omega)
                    · exfalso
                      grind
                · exact absurd (b2i_z.mp c_37) (by simp [e2])
        · rw [if_pos e2]
          skip
          refine x_iload_n dX6_faultOfDays_2 rfl ?_
          refine x_aload_n dX6_faultOfDays_3 rfl ?_
          refine y_getI fkX6_130 dX6_faultOfDays_4 (by decide) rfl rfl ?_
          rw [hl]
          refine x_icmp_ge 111 dX6_faultOfDays_7 (by decide) (fun c_7 => ?_) (fun c_7 => ?_)
          · exact absurd c_7 (nI_ge hlt (by omega))
          · refine x_aload_n dX6_faultOfDays_10 rfl ?_
            refine y_getR fkX6_22 dX6_faultOfDays_11 (by decide) rfl rfl ?_
            refine x_iload_n dX6_faultOfDays_14 rfl ?_
            refine y_ialdn (j := i) dX6_faultOfDays_15 (by decide) rfl (ixN (by omega)) (by omega) ?_
            rw [hs i hlt]
            refine x_istore_n dX6_faultOfDays_16 (by decide) rfl ?_
            refine x_iload_n dX6_faultOfDays_17 rfl ?_
            refine x_bipushv (v := 120) dX6_faultOfDays_18 (by decide) ?_
            refine x_icmp_ne 88 dX6_faultOfDays_20 (by decide) (fun c_20 => ?_) (fun c_20 => ?_)
            · exact absurd e1 c_20
            · refine x_aload_n dX6_faultOfDays_23 rfl ?_
              refine x_iload_n dX6_faultOfDays_24 rfl ?_
              refine x_iconstv (v := 1) dX6_faultOfDays_25 (by decide) ?_
              refine x_iadd dX6_faultOfDays_26 ?_
              rw [nI_1]
              refine y_callV (as := [_]) okX6_next lkX6_133 dX6_faultOfDays_27 rfl (by decide) rfl (h1) (by omega) rfl (by simp [Value.category]) (Nat.le_of_ble_eq_true rfl) rfl rfl (cat8 rfl) ?_
              refine x_bipushv (v := 48) dX6_faultOfDays_30 (by decide) ?_
              refine x_bipushv (v := 54) dX6_faultOfDays_32 (by decide) ?_
              refine y_callS (as := [_, _, _]) okX6_in lkX6_51 dX6_faultOfDays_34 rfl (r_in) (by omega) rfl (by simp [Value.category]) (Nat.le_of_ble_eq_true rfl) (cat8 rfl) ?_
              refine x_if_ne 44 dX6_faultOfDays_37 (by decide) (fun c_37 => ?_) (fun c_37 => ?_)
              · exact absurd (by simp only [b2i_z]; grind) c_37
              · refine x_iload_n dX6_faultOfDays_40 rfl ?_
                refine x_iconstv (v := 1) dX6_faultOfDays_41 (by decide) ?_
                refine x_iadd dX6_faultOfDays_42 ?_
                exact y_ret dX6_faultOfDays_43 rfl (rfl) (by rw [nI_1]) (rfl)
      · rw [if_neg e1]
        by_cases e2 : P i = 99 ∨ P i = 100
        · rw [if_pos e2]
          skip
          refine x_iload_n dX6_faultOfDays_2 rfl ?_
          refine x_aload_n dX6_faultOfDays_3 rfl ?_
          refine y_getI fkX6_130 dX6_faultOfDays_4 (by decide) rfl rfl ?_
          rw [hl]
          refine x_icmp_ge 111 dX6_faultOfDays_7 (by decide) (fun c_7 => ?_) (fun c_7 => ?_)
          · exact absurd c_7 (nI_ge hlt (by omega))
          · refine x_aload_n dX6_faultOfDays_10 rfl ?_
            refine y_getR fkX6_22 dX6_faultOfDays_11 (by decide) rfl rfl ?_
            refine x_iload_n dX6_faultOfDays_14 rfl ?_
            refine y_ialdn (j := i) dX6_faultOfDays_15 (by decide) rfl (ixN (by omega)) (by omega) ?_
            rw [hs i hlt]
            refine x_istore_n dX6_faultOfDays_16 (by decide) rfl ?_
            refine x_iload_n dX6_faultOfDays_17 rfl ?_
            refine x_bipushv (v := 120) dX6_faultOfDays_18 (by decide) ?_
            refine x_icmp_ne 88 dX6_faultOfDays_20 (by decide) (fun c_20 => ?_) (fun c_20 => ?_)
            · refine x_iload_n dX6_faultOfDays_88 rfl ?_
              refine x_bipushv (v := 99) dX6_faultOfDays_89 (by decide) ?_
              refine x_icmp_eq 100 dX6_faultOfDays_91 (by decide) (fun c_91 => ?_) (fun c_91 => ?_)
              · refine x_iincv (v := 1) dX6_faultOfDays_100 rfl (by decide) rfl (by decide) ?_
                refine x_goto 108 dX6_faultOfDays_103 (by decide) ?_
                refine x_goto 2 dX6_faultOfDays_108 (by decide) ?_
                rw [nI_1]
                exact ih (i + 1) _ (by omega) (by omega)
              · refine x_iload_n dX6_faultOfDays_94 rfl ?_
                refine x_bipushv (v := 100) dX6_faultOfDays_95 (by decide) ?_
                refine x_icmp_ne 106 dX6_faultOfDays_97 (by decide) (fun c_97 => ?_) (fun c_97 => ?_)
                · exfalso
                  grind
                · refine x_iincv (v := 1) dX6_faultOfDays_100 rfl (by decide) rfl (by decide) ?_
                  refine x_goto 108 dX6_faultOfDays_103 (by decide) ?_
                  refine x_goto 2 dX6_faultOfDays_108 (by decide) ?_
                  rw [nI_1]
                  exact ih (i + 1) _ (by omega) (by omega)
            · exact absurd c_20 e1
        · rw [if_neg e2]
          skip
          refine x_iload_n dX6_faultOfDays_2 rfl ?_
          refine x_aload_n dX6_faultOfDays_3 rfl ?_
          refine y_getI fkX6_130 dX6_faultOfDays_4 (by decide) rfl rfl ?_
          rw [hl]
          refine x_icmp_ge 111 dX6_faultOfDays_7 (by decide) (fun c_7 => ?_) (fun c_7 => ?_)
          · exact absurd c_7 (nI_ge hlt (by omega))
          · refine x_aload_n dX6_faultOfDays_10 rfl ?_
            refine y_getR fkX6_22 dX6_faultOfDays_11 (by decide) rfl rfl ?_
            refine x_iload_n dX6_faultOfDays_14 rfl ?_
            refine y_ialdn (j := i) dX6_faultOfDays_15 (by decide) rfl (ixN (by omega)) (by omega) ?_
            rw [hs i hlt]
            refine x_istore_n dX6_faultOfDays_16 (by decide) rfl ?_
            refine x_iload_n dX6_faultOfDays_17 rfl ?_
            refine x_bipushv (v := 120) dX6_faultOfDays_18 (by decide) ?_
            refine x_icmp_ne 88 dX6_faultOfDays_20 (by decide) (fun c_20 => ?_) (fun c_20 => ?_)
            · refine x_iload_n dX6_faultOfDays_88 rfl ?_
              refine x_bipushv (v := 99) dX6_faultOfDays_89 (by decide) ?_
              refine x_icmp_eq 100 dX6_faultOfDays_91 (by decide) (fun c_91 => ?_) (fun c_91 => ?_)
              · refine x_iincv (v := 1) dX6_faultOfDays_100 rfl (by decide) rfl (by decide) ?_
                refine x_goto 108 dX6_faultOfDays_103 (by decide) ?_
                refine x_goto 2 dX6_faultOfDays_108 (by decide) ?_
                exfalso
                grind
              · refine x_iload_n dX6_faultOfDays_94 rfl ?_
                refine x_bipushv (v := 100) dX6_faultOfDays_95 (by decide) ?_
                refine x_icmp_ne 106 dX6_faultOfDays_97 (by decide) (fun c_97 => ?_) (fun c_97 => ?_)
                · refine x_iload_n dX6_faultOfDays_106 rfl ?_
                  exact y_ret dX6_faultOfDays_107 rfl (rfl) (rfl) (rfl)
                · refine x_iincv (v := 1) dX6_faultOfDays_100 rfl (by decide) rfl (by decide) ?_
                  refine x_goto 108 dX6_faultOfDays_103 (by decide) ?_
                  refine x_goto 2 dX6_faultOfDays_108 (by decide) ?_
                  exfalso
                  grind
            · exact absurd c_20 e1
    · rw [if_neg hlt]
      have he : i = n := by omega
      subst he
      by_cases e0 : i = 0
      · rw [if_pos e0]
        subst e0
        skip
        refine x_iload_n dX6_faultOfDays_2 rfl ?_
        refine x_aload_n dX6_faultOfDays_3 rfl ?_
        refine y_getI fkX6_130 dX6_faultOfDays_4 (by decide) rfl rfl ?_
        rw [hl]
        refine x_icmp_ge 111 dX6_faultOfDays_7 (by decide) (fun c_7 => ?_) (fun c_7 => ?_)
        · refine x_aload_n dX6_faultOfDays_111 rfl ?_
          refine y_getI fkX6_130 dX6_faultOfDays_112 (by decide) rfl rfl ?_
          rw [hl]
          refine x_if_ne 122 dX6_faultOfDays_115 (by decide) (fun c_115 => ?_) (fun c_115 => ?_)
          · exact absurd rfl c_115
          · refine x_iconstv (v := 0) dX6_faultOfDays_118 (by decide) ?_
            refine x_goto 124 dX6_faultOfDays_119 (by decide) ?_
            exact y_ret dX6_faultOfDays_124 rfl (rfl) (rfl) (rfl)
        · exact absurd (Int32.le_refl _) c_7
      · rw [if_neg e0]
        skip
        refine x_iload_n dX6_faultOfDays_2 rfl ?_
        refine x_aload_n dX6_faultOfDays_3 rfl ?_
        refine y_getI fkX6_130 dX6_faultOfDays_4 (by decide) rfl rfl ?_
        rw [hl]
        refine x_icmp_ge 111 dX6_faultOfDays_7 (by decide) (fun c_7 => ?_) (fun c_7 => ?_)
        · refine x_aload_n dX6_faultOfDays_111 rfl ?_
          refine y_getI fkX6_130 dX6_faultOfDays_112 (by decide) rfl rfl ?_
          rw [hl]
          refine x_if_ne 122 dX6_faultOfDays_115 (by decide) (fun c_115 => ?_) (fun c_115 => ?_)
          · refine x_bipushv (v := -4) dX6_faultOfDays_122 (by decide) ?_
            exact y_ret dX6_faultOfDays_124 rfl (rfl) (rfl) (rfl)
          · exact absurd c_115 (nI_ne0 (by omega) (by omega))
        · exact absurd (Int32.le_refl _) c_7
theorem r_fd {M : Mem} {P : Row} {n : Nat} (hP : Pad P n) (hM : PadR M P n) : Y 1 mX6_faultOfDays 0 (lent 3 [.ref 84]) [] M (some (.int (fdR P n (n + 1) 0))) M := by
  have h := r_fd_loop hP hM (n + 1) 0 none (by omega) (by omega)
  refine x_iconstv (v := 0) dX6_faultOfDays_0 (by decide) ?_
  refine x_istore_n dX6_faultOfDays_1 (by decide) rfl ?_
  exact h
