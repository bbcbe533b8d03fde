theorem y_least_loop {M : Mem} {x : Nat} : ∀ (k i : Nat), i + k = 6 → Y 1 mX0_leastOf 2 [some (.int (nI x)), some (.int (nI i))] [] M (some (.int (nI (lsB x k i)))) M := by
  intro k
  induction k with
  | zero =>
    intro i hi
    have he : i = 6 := by omega
    subst he
    have h6 : (6 : Int32) ≤ nI 6 := by decide
    rw [lsB]
    skip
    refine x_iload_n dX0_leastOf_2 rfl ?_
    refine x_bipushv (v := 6) dX0_leastOf_3 (by decide) ?_
    refine x_icmp_ge 22 dX0_leastOf_5 (by decide) (fun c_5 => ?_) (fun c_5 => ?_)
    · refine x_iload_n dX0_leastOf_22 rfl ?_
      exact y_ret dX0_leastOf_23 rfl (rfl) (rfl) (rfl)
    · exact absurd h6 c_5
  | succ k ih =>
    intro i hi
    have h6 : ¬ (6 : Int32) ≤ nI i := nI_ge (a := i) (b := 6) (by omega) (by decide)
    have hh := y_holds (M := M) (s := nI x) (k := nI i)
    rw [holds_bit (by omega), bit_nI (by omega)] at hh
    rw [lsB]
    cases hb : x.testBit i with
    | true =>
      rw [hb] at hh
      rw [if_pos rfl]
      skip
      refine x_iload_n dX0_leastOf_2 rfl ?_
      refine x_bipushv (v := 6) dX0_leastOf_3 (by decide) ?_
      refine x_icmp_ge 22 dX0_leastOf_5 (by decide) (fun c_5 => ?_) (fun c_5 => ?_)
      · exact absurd c_5 h6
      · refine x_iload_n dX0_leastOf_8 rfl ?_
        refine x_iload_n dX0_leastOf_9 rfl ?_
        refine y_callSN (as := [_, _]) okX5_holds nsX0_69 dX0_leastOf_10 rfl (hh) (by omega) rfl (by simp [Value.category]) (Nat.le_of_ble_eq_true rfl) (cat8 rfl) ?_
        refine x_if_ne 22 dX0_leastOf_13 (by decide) (fun c_13 => ?_) (fun c_13 => ?_)
        · refine x_iload_n dX0_leastOf_22 rfl ?_
          exact y_ret dX0_leastOf_23 rfl (rfl) (rfl) (rfl)
        · exact absurd c_13 (by decide)
    | false =>
      rw [hb] at hh
      rw [if_neg (by decide)]
      have hi2 := ih (i + 1) (by omega)
      skip
      refine x_iload_n dX0_leastOf_2 rfl ?_
      refine x_bipushv (v := 6) dX0_leastOf_3 (by decide) ?_
      refine x_icmp_ge 22 dX0_leastOf_5 (by decide) (fun c_5 => ?_) (fun c_5 => ?_)
      · exact absurd c_5 h6
      · refine x_iload_n dX0_leastOf_8 rfl ?_
        refine x_iload_n dX0_leastOf_9 rfl ?_
        refine y_callSN (as := [_, _]) okX5_holds nsX0_69 dX0_leastOf_10 rfl (hh) (by omega) rfl (by simp [Value.category]) (Nat.le_of_ble_eq_true rfl) (cat8 rfl) ?_
        refine x_if_ne 22 dX0_leastOf_13 (by decide) (fun c_13 => ?_) (fun c_13 => ?_)
        · exact absurd rfl c_13
        · refine x_iincv (v := 1) dX0_leastOf_16 rfl (by decide) rfl (by decide) ?_
          refine x_goto 2 dX0_leastOf_19 (by decide) ?_
          rw [nI_1]
          exact hi2
theorem y_least {M : Mem} {x : Nat} : Y 1 mX0_leastOf 0 (lent 2 [.int (nI x)]) [] M (some (.int (nI (lo x)))) M := by
  have h := y_least_loop (M := M) (x := x) 6 0 rfl
  refine x_iconstv (v := 0) dX0_leastOf_0 (by decide) ?_
  refine x_istore_n dX0_leastOf_1 (by decide) rfl ?_
  exact h
theorem y_fill76_loop {M : Mem} : ∀ (k i : Nat), i + k = 7 → Y 0 mJ7_fill_53178 5 [some (.ref 76), some (.int 0), some (.int (nI i)), some (.int (nI 7))] [] (setR M 76 (rowN (fun _ => 0) i (M 76))) none (setR M 76 (rowN (fun _ => 0) 7 (M 76))) := by
  intro k
  induction k with
  | zero =>
    intro i hi
    have he : i = 7 := by omega
    subst he
    skip
    refine x_iload_n dJ7_fill_53178_5 rfl ?_
    refine x_iload_n dJ7_fill_53178_6 rfl ?_
    refine x_icmp_ge 20 dJ7_fill_53178_7 (by decide) (fun c_7 => ?_) (fun c_7 => ?_)
    · exact y_vret dJ7_fill_53178_20 rfl (rfl)
    · exact absurd (Int32.le_refl _) c_7
  | succ k ih =>
    intro i hi
    have h6 : ¬ nI 7 ≤ nI i := nI_ge (a := i) (b := 7) (by omega) (by decide)
    have hi2 := ih (i + 1) (by omega)
    skip
    refine x_iload_n dJ7_fill_53178_5 rfl ?_
    refine x_iload_n dJ7_fill_53178_6 rfl ?_
    refine x_icmp_ge 20 dJ7_fill_53178_7 (by decide) (fun c_7 => ?_) (fun c_7 => ?_)
    · exact absurd c_7 h6
    · refine x_aload_n dJ7_fill_53178_10 rfl ?_
      refine x_iload_n dJ7_fill_53178_11 rfl ?_
      refine x_iload_n dJ7_fill_53178_12 rfl ?_
      refine y_iastn (j := i) dJ7_fill_53178_13 (by decide) rfl (ixN (by omega)) (by omega) ?_
      refine x_iincv (v := 1) dJ7_fill_53178_14 rfl (by decide) rfl (by decide) ?_
      refine x_goto 5 dJ7_fill_53178_17 (by decide) ?_
      rw [updM_row, row_at, row_row, show upd (rowN (fun _ => 0) i (M 76)) i 0 = rowN (fun _ => 0) (i + 1) (M 76) from rowN_s (V := fun _ => 0), nI_1]
      exact hi2
theorem y_fill76 {M : Mem} : Y 0 mJ7_fill_53178 0 (lent 4 [.ref 76, .int 0]) [] M none (setR M 76 (rowN (fun _ => 0) 7 (M 76))) := by
  have h := y_fill76_loop (M := M) 7 0 rfl
  rw [rowN_0, row_self] at h
  refine x_iconstv (v := 0) dJ7_fill_53178_0 (by decide) ?_
  refine x_istore_n dJ7_fill_53178_1 (by decide) rfl ?_
  refine x_aload_n dJ7_fill_53178_2 rfl ?_
  refine y_alen (by decide) dJ7_fill_53178_3 (by decide) rfl ?_
  refine x_istore_n dJ7_fill_53178_4 (by decide) rfl ?_
  exact h
theorem y_fill77_loop {M : Mem} : ∀ (k i : Nat), i + k = 128 → Y 0 mJ7_fill_53178 5 [some (.ref 77), some (.int 0), some (.int (nI i)), some (.int (nI 128))] [] (setR M 77 (rowN (fun _ => 0) i (M 77))) none (setR M 77 (rowN (fun _ => 0) 128 (M 77))) := by
  intro k
  induction k with
  | zero =>
    intro i hi
    have he : i = 128 := by omega
    subst he
    skip
    refine x_iload_n dJ7_fill_53178_5 rfl ?_
    refine x_iload_n dJ7_fill_53178_6 rfl ?_
    refine x_icmp_ge 20 dJ7_fill_53178_7 (by decide) (fun c_7 => ?_) (fun c_7 => ?_)
    · exact y_vret dJ7_fill_53178_20 rfl (rfl)
    · exact absurd (Int32.le_refl _) c_7
  | succ k ih =>
    intro i hi
    have h6 : ¬ nI 128 ≤ nI i := nI_ge (a := i) (b := 128) (by omega) (by decide)
    have hi2 := ih (i + 1) (by omega)
    skip
    refine x_iload_n dJ7_fill_53178_5 rfl ?_
    refine x_iload_n dJ7_fill_53178_6 rfl ?_
    refine x_icmp_ge 20 dJ7_fill_53178_7 (by decide) (fun c_7 => ?_) (fun c_7 => ?_)
    · exact absurd c_7 h6
    · refine x_aload_n dJ7_fill_53178_10 rfl ?_
      refine x_iload_n dJ7_fill_53178_11 rfl ?_
      refine x_iload_n dJ7_fill_53178_12 rfl ?_
      refine y_iastn (j := i) dJ7_fill_53178_13 (by decide) rfl (ixN (by omega)) (by omega) ?_
      refine x_iincv (v := 1) dJ7_fill_53178_14 rfl (by decide) rfl (by decide) ?_
      refine x_goto 5 dJ7_fill_53178_17 (by decide) ?_
      rw [updM_row, row_at, row_row, show upd (rowN (fun _ => 0) i (M 77)) i 0 = rowN (fun _ => 0) (i + 1) (M 77) from rowN_s (V := fun _ => 0), nI_1]
      exact hi2
theorem y_fill77 {M : Mem} : Y 0 mJ7_fill_53178 0 (lent 4 [.ref 77, .int 0]) [] M none (setR M 77 (rowN (fun _ => 0) 128 (M 77))) := by
  have h := y_fill77_loop (M := M) 128 0 rfl
  rw [rowN_0, row_self] at h
  refine x_iconstv (v := 0) dJ7_fill_53178_0 (by decide) ?_
  refine x_istore_n dJ7_fill_53178_1 (by decide) rfl ?_
  refine x_aload_n dJ7_fill_53178_2 rfl ?_
  refine y_alen (by decide) dJ7_fill_53178_3 (by decide) rfl ?_
  refine x_istore_n dJ7_fill_53178_4 (by decide) rfl ?_
  exact h
theorem y_rt_in {o : Nat} (hk : IsMk o) {V : Row} (hV : WF V) {i : Nat} (hi : i < nT V) {W : Row} {M9 : Mem} : ∀ (k j : Nat) (M : Mem), j + k = nT V → M 75 4 = nI (nT V) → (∀ l4 : Option Value, Y 7 mX0_readTakers 96 [some (.ref 75), some (.ref o), some (.int (nI i)), some (.int (gv V i)), l4] [] (setR M 76 (tkR V (i + 1) 0 W)) none M9) → Y 7 mX0_readTakers 54 [some (.ref 75), some (.ref o), some (.int (nI i)), some (.int (gv V i)), some (.int (nI j))] [] (setR M 76 (tkR V i j W)) none M9 := by
  obtain ⟨hn1, hn2⟩ := WF_n hV
  intro k
  induction k with
  | zero =>
    intro j M hj h4 hk9
    have he : j = nT V := by omega
    subst he
    rw [tkR_n]
    have h4' : ∀ R : Row, setR M 76 R 75 4 = nI (nT V) := fun R => by rw [row_ne (by decide)]; exact h4
    skip
    refine x_iload dX0_readTakers_54 rfl ?_
    refine x_aload_n dX0_readTakers_56 rfl ?_
    refine y_getI fkX0_55 dX0_readTakers_57 (by decide) rfl rfl ?_
    rw [h4']
    refine x_icmp_ge 96 dX0_readTakers_60 (by decide) (fun c_60 => ?_) (fun c_60 => ?_)
    · exact hk9 _
    · exact absurd (Int32.le_refl _) c_60
  | succ k ih =>
    intro j M hj h4 hk9
    have h4' : ∀ R : Row, setR M 76 R 75 4 = nI (nT V) := fun R => by rw [row_ne (by decide)]; exact h4
    have hnle : ¬ nI (nT V) ≤ nI j := nI_ge (by omega) (by omega)
    have hh := y_holds (M := setR M 76 (tkR V i j W)) (s := gv V i) (k := nI j)
    rw [holds_bit (by omega), bit_gv hV (by omega)] at hh
    have hi2 := ih (j + 1) M (by omega) h4 hk9
    cases hc : canV V i j with
    | true =>
      rw [hc] at hh
      have hs := tkR_s (W := W) (i := i) (j := j) (by omega) hc
      skip
      refine x_iload dX0_readTakers_54 rfl ?_
      refine x_aload_n dX0_readTakers_56 rfl ?_
      refine y_getI fkX0_55 dX0_readTakers_57 (by decide) rfl rfl ?_
      rw [h4']
      refine x_icmp_ge 96 dX0_readTakers_60 (by decide) (fun c_60 => ?_) (fun c_60 => ?_)
      · exact absurd c_60 hnle
      · refine x_iload_n dX0_readTakers_63 rfl ?_
        refine x_iload dX0_readTakers_64 rfl ?_
        refine y_callSN (as := [_, _]) okX5_holds nsX0_69 dX0_readTakers_66 rfl (hh) (by omega) rfl (by simp [Value.category]) (Nat.le_of_ble_eq_true rfl) (cat8 rfl) ?_
        refine x_if_eq 90 dX0_readTakers_69 (by decide) (fun c_69 => ?_) (fun c_69 => ?_)
        · exact absurd c_69 (by decide)
        · refine x_aload_n dX0_readTakers_72 rfl ?_
          refine y_getR fkX0_9 dX0_readTakers_73 (by decide) rfl rfl ?_
          refine x_iload dX0_readTakers_76 rfl ?_
          refine x_aload_n dX0_readTakers_78 rfl ?_
          refine y_getR fkX0_9 dX0_readTakers_79 (by decide) rfl rfl ?_
          refine x_iload dX0_readTakers_82 rfl ?_
          refine y_ialdn (j := j) dX0_readTakers_84 (by decide) rfl (ixN (by omega)) (by omega) ?_
          refine x_iload_n dX0_readTakers_85 rfl ?_
          refine y_callSN (as := [_, _]) okX5_with nsX0_73 dX0_readTakers_86 rfl (y_with) (by omega) rfl (by simp [Value.category]) (Nat.le_of_ble_eq_true rfl) (cat8 rfl) ?_
          refine y_iastn (j := j) dX0_readTakers_89 (by decide) rfl (ixN (by omega)) (by omega) ?_
          refine x_iincv (v := 1) dX0_readTakers_90 rfl (by decide) rfl (by decide) ?_
          refine x_goto 54 dX0_readTakers_93 (by decide) ?_
          rw [updM_row, row_row, row_at, hs, nI_1]
          exact hi2
    | false =>
      rw [hc] at hh
      have hs := tkR_f (W := W) (i := i) (j := j) (by rw [hc]; decide)
      skip
      refine x_iload dX0_readTakers_54 rfl ?_
      refine x_aload_n dX0_readTakers_56 rfl ?_
      refine y_getI fkX0_55 dX0_readTakers_57 (by decide) rfl rfl ?_
      rw [h4']
      refine x_icmp_ge 96 dX0_readTakers_60 (by decide) (fun c_60 => ?_) (fun c_60 => ?_)
      · exact absurd c_60 hnle
      · refine x_iload_n dX0_readTakers_63 rfl ?_
        refine x_iload dX0_readTakers_64 rfl ?_
        refine y_callSN (as := [_, _]) okX5_holds nsX0_69 dX0_readTakers_66 rfl (hh) (by omega) rfl (by simp [Value.category]) (Nat.le_of_ble_eq_true rfl) (cat8 rfl) ?_
        refine x_if_eq 90 dX0_readTakers_69 (by decide) (fun c_69 => ?_) (fun c_69 => ?_)
        · refine x_iincv (v := 1) dX0_readTakers_90 rfl (by decide) rfl (by decide) ?_
          refine x_goto 54 dX0_readTakers_93 (by decide) ?_
          rw [hs, nI_1]
          exact hi2
        · exact absurd rfl c_69
theorem y_rt_out {o : Nat} (hk : IsMk o) (ho : o + 9 < 75) {V : Row} (hV : WF V) {W : Row} {M : Mem} (hR : RM M o V) (h4 : M 75 4 = nI (nT V)) : ∀ (k i : Nat) (l3 l4 : Option Value), i + k = nT V → Y 7 mX0_readTakers 37 [some (.ref 75), some (.ref o), some (.int (nI i)), l3, l4] [] (setR M 76 (tkR V i 0 W)) none (setR M 76 (tkR V (nT V) 0 W)) := by
  obtain ⟨hn1, hn2⟩ := WF_n hV
  have h4' : ∀ R : Row, setR M 76 R 75 4 = nI (nT V) := fun R => by rw [row_ne (by decide)]; exact h4
  intro k
  induction k with
  | zero =>
    intro i l3 l4 hi
    have he : i = nT V := by omega
    subst he
    skip
    refine x_iload_n dX0_readTakers_37 rfl ?_
    refine x_aload_n dX0_readTakers_38 rfl ?_
    refine y_getI fkX0_55 dX0_readTakers_39 (by decide) rfl rfl ?_
    rw [h4']
    refine x_icmp_ge 102 dX0_readTakers_42 (by decide) (fun c_42 => ?_) (fun c_42 => ?_)
    · exact y_vret dX0_readTakers_102 rfl (rfl)
    · exact absurd (Int32.le_refl _) c_42
  | succ k ih =>
    intro i l3 l4 hi
    have hnle : ¬ nI (nT V) ≤ nI i := nI_ge (by omega) (by omega)
    have hR2 : RM (setR M 76 (tkR V i 0 W)) o V := RM_congr (fun c a b => row_ne (by omega)) hR
    have hgv := y_giversOf hk hR2 hV (t := i) (by omega)
    have hin := y_rt_in hk hV (i := i) (by omega) (W := W) (M9 := setR M 76 (tkR V (nT V) 0 W)) (nT V) 0 M (by omega) h4 (fun l4 => by
      have hi2 := ih (i + 1) (some (.int (gv V i))) l4 (by omega)
      skip
      refine x_iincv (v := 1) dX0_readTakers_96 rfl (by decide) rfl (by decide) ?_
      refine x_goto 37 dX0_readTakers_99 (by decide) ?_
      rw [nI_1]
      exact hi2)
    skip
    refine x_iload_n dX0_readTakers_37 rfl ?_
    refine x_aload_n dX0_readTakers_38 rfl ?_
    refine y_getI fkX0_55 dX0_readTakers_39 (by decide) rfl rfl ?_
    rw [h4']
    refine x_icmp_ge 102 dX0_readTakers_42 (by decide) (fun c_42 => ?_) (fun c_42 => ?_)
    · exact absurd c_42 hnle
    · refine x_aload_n dX0_readTakers_45 rfl ?_
      refine x_iload_n dX0_readTakers_46 rfl ?_
      refine y_callV (as := [_]) okX2_giversOf lkX0_65 dX0_readTakers_47 rfl (hk.1 0 (by decide)) (hk.2 0 (by decide)) (hgv) (by omega) rfl (by simp [Value.category]) (Nat.le_of_ble_eq_true rfl) rfl rfl (cat8 rfl) ?_
      refine x_istore_n dX0_readTakers_50 (by decide) rfl ?_
      refine x_iconstv (v := 0) dX0_readTakers_51 (by decide) ?_
      refine x_istore dX0_readTakers_52 (by decide) rfl ?_
      exact hin
theorem y_readTakers {o : Nat} (hk : IsMk o) {M : Mem} {V : Row} (hR : RM M o V) (hV : WF V) (ho : o + 9 < 75) : Y 7 mX0_readTakers 0 (lent 5 [.ref 75, .ref o]) [] M none (setR (updM (updM M 75 4 (nI (nT V))) 75 5 (nI (2 ^ nT V))) 76 (tkR V (nT V) 0 (rowN (fun _ => 0) 7 (M 76)))) := by
  have hR0 := hR
  obtain ⟨⟨r7, r8, r9, r10, r11, r12, r13, r14, r15, r2⟩, rk, rt⟩ := hR0
  obtain ⟨hn1, hn2⟩ := WF_n hV
  have e0 : (if (7 : Int32) < M o 7 then 7 else M o 7) = nI (nT V) := by
    rw [r7, hn2]
    exact if_neg (nI_nlt (a := 7) (b := nT V) hn1 (by decide))
  have e1 : (if (0 : Int32) < nI (nT V) then nI (nT V) else 0) = nI (nT V) := by
    by_cases h : 0 < nT V
    · exact if_pos (nI_lt (a := 0) h (by omega))
    · have : nT V = 0 := by omega
      rw [this]
      rfl
  have e4 : updM M 75 4 (nI (nT V)) 75 4 = nI (nT V) := by simp [updM]
  have hR2 : RM (updM (updM M 75 4 (nI (nT V))) 75 5 (nI (2 ^ nT V))) o V := RM_congr (fun c a b => by rw [updM_ne (by omega), updM_ne (by omega)]) hR
  have h := y_rt_out hk ho hV (W := rowN (fun _ => 0) 7 (M 76)) hR2 (by simp [updM]) (nT V) 0 none none (by omega)
  have e5 : setR (updM (updM M 75 4 (nI (nT V))) 75 5 (nI (2 ^ nT V))) 76 (rowN (fun _ => 0) 7 (updM (updM M 75 4 (nI (nT V))) 75 5 (nI (2 ^ nT V)) 76)) = setR (updM (updM M 75 4 (nI (nT V))) 75 5 (nI (2 ^ nT V))) 76 (tkR V 0 0 (rowN (fun _ => 0) 7 (M 76))) := by
    rw [updM_ne (by decide), updM_ne (by decide)]
    congr 1
    funext g
    unfold tkR rowN
    by_cases h : g < nT V
    · rw [if_pos h, if_pos (by omega)]
      rfl
    · rw [if_neg h]
  have hf := y_fill76 (M := updM (updM M 75 4 (nI (nT V))) 75 5 (nI (2 ^ nT V)))
  rw [e5] at hf
  skip
  refine x_aload_n dX0_readTakers_0 rfl ?_
  refine x_iconstv (v := 0) dX0_readTakers_1 (by decide) ?_
  refine x_aload_n dX0_readTakers_2 rfl ?_
  refine y_getI fkX0_40 dX0_readTakers_3 (hk.1 0 (by decide)) (hk.2 0 (by decide)) rfl ?_
  refine x_bipushv (v := 7) dX0_readTakers_6 (by decide) ?_
  refine x_mmin lkX0_46 dX0_readTakers_8 (by omega) (cat8 rfl) ?_
  rw [e0]
  refine x_mmax lkX0_52 dX0_readTakers_11 (by omega) (cat8 rfl) ?_
  rw [e1]
  refine y_putI fkX0_55 dX0_readTakers_14 (by decide) rfl rfl rfl rfl rfl ?_
  refine x_aload_n dX0_readTakers_17 rfl ?_
  refine x_iconstv (v := 1) dX0_readTakers_18 (by decide) ?_
  refine x_aload_n dX0_readTakers_19 rfl ?_
  refine y_getI fkX0_55 dX0_readTakers_20 (by decide) rfl rfl ?_
  rw [e4]
  refine x_ishl dX0_readTakers_23 ?_
  rw [one_sh (by omega)]
  refine y_putI fkX0_56 dX0_readTakers_24 (by decide) rfl rfl rfl rfl rfl ?_
  refine x_aload_n dX0_readTakers_27 rfl ?_
  refine y_getR fkX0_9 dX0_readTakers_28 (by decide) rfl rfl ?_
  refine x_iconstv (v := 0) dX0_readTakers_31 (by decide) ?_
  refine y_callS (as := [_, _]) okJ7_fill_53178 lkX0_59 dX0_readTakers_32 rfl ((hf.more (d' := 6) (by omega))) (by omega) rfl (by simp [Value.category]) (Nat.le_of_ble_eq_true rfl) (cat8 rfl) ?_
  refine x_iconstv (v := 0) dX0_readTakers_35 (by decide) ?_
  refine x_istore_n dX0_readTakers_36 (by decide) rfl ?_
  exact h
