theorem y_sgl {n : Nat} (hn : n ≤ 7) {M : Mem} (h4 : M 75 4 = nI n) (h5 : M 75 5 = nI (2 ^ n)) {W : Row} {M9 : Mem} (hk : ∀ l1 : Option Value, Y 2 mX0_findChains 35 [some (.ref 75), l1, none, none] [] (setR M 77 (sgl n W)) none M9) : ∀ (k i : Nat), i + k = n → Y 2 mX0_findChains 10 [some (.ref 75), some (.int (nI i)), none, none] [] (setR M 77 (sgl i W)) none M9 := by
  have h4' : ∀ R : Row, setR M 77 R 75 4 = nI n := fun R => by rw [row_ne (by decide)]; exact h4
  have h5' : ∀ R : Row, setR M 77 R 75 5 = nI (2 ^ n) := fun R => by rw [row_ne (by decide)]; exact h5
  intro k
  induction k with
  | zero =>
    intro i hi
    have he : i = n := by omega
    subst he
    skip
    refine x_iload_n dX0_findChains_10 rfl ?_
    refine x_aload_n dX0_findChains_11 rfl ?_
    refine y_getI fkX0_55 dX0_findChains_12 (by decide) rfl rfl ?_
    rw [h4']
    refine x_icmp_ge 35 dX0_findChains_15 (by decide) (fun c_15 => ?_) (fun c_15 => ?_)
    · exact hk _
    · exact absurd (Int32.le_refl _) c_15
  | succ k ih =>
    intro i hi
    have hnle : ¬ nI n ≤ nI i := nI_ge (by omega) (by omega)
    have h2 := p2_lt (i := i) (n := n) (by omega) hn
    have hi2 := ih (i + 1) (by omega)
    skip
    refine x_iload_n dX0_findChains_10 rfl ?_
    refine x_aload_n dX0_findChains_11 rfl ?_
    refine y_getI fkX0_55 dX0_findChains_12 (by decide) rfl rfl ?_
    rw [h4']
    refine x_icmp_ge 35 dX0_findChains_15 (by decide) (fun c_15 => ?_) (fun c_15 => ?_)
    · exact absurd c_15 hnle
    · refine x_aload_n dX0_findChains_18 rfl ?_
      refine y_getR fkX0_15 dX0_findChains_19 (by decide) rfl rfl ?_
      refine x_iconstv (v := 1) dX0_findChains_22 (by decide) ?_
      refine x_iload_n dX0_findChains_23 rfl ?_
      refine x_ishl dX0_findChains_24 ?_
      rw [one_sh (by omega)]
      refine x_iconstv (v := 1) dX0_findChains_25 (by decide) ?_
      refine x_iload_n dX0_findChains_26 rfl ?_
      refine x_ishl dX0_findChains_27 ?_
      rw [one_sh (by omega)]
      refine y_iastn (j := (2 ^ i)) dX0_findChains_28 (by decide) rfl (ixN (by omega)) (by omega) ?_
      refine x_iincv (v := 1) dX0_findChains_29 rfl (by decide) rfl (by decide) ?_
      refine x_goto 10 dX0_findChains_32 (by decide) ?_
      rw [updM_row, row_row, row_at, nI_1]
      exact hi2
theorem y_ch_in {n : Nat} (hn : n ≤ 7) {M : Mem} (h4 : M 75 4 = nI n) (h5 : M 75 5 = nI (2 ^ n)) {x : Nat} (hx : x < 2 ^ n) {M9 : Mem} : ∀ (k : Nat) (R : Row) (l3 : Option Value), k ≤ n → (∀ l3 : Option Value, Y 2 mX0_findChains 112 [some (.ref 75), some (.int (nI x)), some (.int (nI n)), l3] [] (setR M 77 (chI (M 76) n x k R)) none M9) → Y 2 mX0_findChains 52 [some (.ref 75), some (.int (nI x)), some (.int (nI (n - k))), l3] [] (setR M 77 R) none M9 := by
  have h4' : ∀ R : Row, setR M 77 R 75 4 = nI n := fun R => by rw [row_ne (by decide)]; exact h4
  have h5' : ∀ R : Row, setR M 77 R 75 5 = nI (2 ^ n) := fun R => by rw [row_ne (by decide)]; exact h5
  have hp := p2_le hn
  intro k
  induction k with
  | zero =>
    intro R l3 hk1 hk
    rw [chI] at hk
    rw [Nat.sub_zero]
    skip
    refine x_iload_n dX0_findChains_52 rfl ?_
    refine x_aload_n dX0_findChains_53 rfl ?_
    refine y_getI fkX0_55 dX0_findChains_54 (by decide) rfl rfl ?_
    rw [h4']
    refine x_icmp_ge 112 dX0_findChains_57 (by decide) (fun c_57 => ?_) (fun c_57 => ?_)
    · exact hk _
    · exact absurd (Int32.le_refl _) c_57
  | succ k ih =>
    intro R l3 hk1 hk
    rw [chI] at hk
    have hnle : ¬ nI n ≤ nI (n - (k + 1)) := nI_ge (by omega) (by omega)
    have hh := y_holds (M := setR M 77 R) (s := nI x) (k := nI (n - (k + 1)))
    rw [holds_bit (by omega), bit_nI (by omega)] at hh
    have hw := y_with (M := setR M 77 R) (s := nI x) (k := nI (n - (k + 1)))
    rw [sb_nI (by omega)] at hw
    have hi2 := fun l => ih _ l (by omega) hk
    have en : n - (k + 1) + 1 = n - k := by omega
    have hsb := sb_lt7 (i := n - (k + 1)) hx (by omega) hn
    have e77 : setR M 77 R 77 = R := row_at
    have e76 : setR M 77 R 76 = M 76 := row_ne (by decide)
    cases hb : x.testBit (n - (k + 1)) with
    | true =>
      rw [hb] at hh
      have hc : chS (M 76) x (n - (k + 1)) R = R := if_neg (by rw [hb]; simp)
      rw [hc] at hi2
      skip
      refine x_iload_n dX0_findChains_52 rfl ?_
      refine x_aload_n dX0_findChains_53 rfl ?_
      refine y_getI fkX0_55 dX0_findChains_54 (by decide) rfl rfl ?_
      rw [h4']
      refine x_icmp_ge 112 dX0_findChains_57 (by decide) (fun c_57 => ?_) (fun c_57 => ?_)
      · exact absurd c_57 hnle
      · refine x_iload_n dX0_findChains_60 rfl ?_
        refine x_iload_n dX0_findChains_61 rfl ?_
        refine y_callSN (as := [_, _]) okX5_holds nsX0_69 dX0_findChains_62 rfl (hh) (by omega) rfl (by simp [Value.category]) (Nat.le_of_ble_eq_true rfl) (cat8 rfl) ?_
        refine x_if_ne 106 dX0_findChains_65 (by decide) (fun c_65 => ?_) (fun c_65 => ?_)
        · refine x_iincv (v := 1) dX0_findChains_106 rfl (by decide) rfl (by decide) ?_
          refine x_goto 52 dX0_findChains_109 (by decide) ?_
          rw [nI_1, en]
          exact hi2 _
        · exact absurd c_65 (by decide)
    | false =>
      rw [hb] at hh
      by_cases hz : R x &&& M 76 (n - (k + 1)) = 0
      · have hc : chS (M 76) x (n - (k + 1)) R = R := if_neg (by rw [hz]; simp)
        rw [hc] at hi2
        skip
        refine x_iload_n dX0_findChains_52 rfl ?_
        refine x_aload_n dX0_findChains_53 rfl ?_
        refine y_getI fkX0_55 dX0_findChains_54 (by decide) rfl rfl ?_
        rw [h4']
        refine x_icmp_ge 112 dX0_findChains_57 (by decide) (fun c_57 => ?_) (fun c_57 => ?_)
        · exact absurd c_57 hnle
        · refine x_iload_n dX0_findChains_60 rfl ?_
          refine x_iload_n dX0_findChains_61 rfl ?_
          refine y_callSN (as := [_, _]) okX5_holds nsX0_69 dX0_findChains_62 rfl (hh) (by omega) rfl (by simp [Value.category]) (Nat.le_of_ble_eq_true rfl) (cat8 rfl) ?_
          refine x_if_ne 106 dX0_findChains_65 (by decide) (fun c_65 => ?_) (fun c_65 => ?_)
          · exact absurd rfl c_65
          · refine x_aload_n dX0_findChains_68 rfl ?_
            refine y_getR fkX0_15 dX0_findChains_69 (by decide) rfl rfl ?_
            refine x_iload_n dX0_findChains_72 rfl ?_
            refine y_ialdn (j := x) dX0_findChains_73 (by decide) rfl (ixN (by omega)) (by omega) ?_
            rw [e77]
            refine x_aload_n dX0_findChains_74 rfl ?_
            refine y_getR fkX0_9 dX0_findChains_75 (by decide) rfl rfl ?_
            refine x_iload_n dX0_findChains_78 rfl ?_
            refine y_ialdn (j := (n - (k + 1))) dX0_findChains_79 (by decide) rfl (ixN (by omega)) (by omega) ?_
            rw [e76]
            refine x_iand dX0_findChains_80 ?_
            refine x_if_eq 106 dX0_findChains_81 (by decide) (fun c_81 => ?_) (fun c_81 => ?_)
            · refine x_iincv (v := 1) dX0_findChains_106 rfl (by decide) rfl (by decide) ?_
              refine x_goto 52 dX0_findChains_109 (by decide) ?_
              rw [nI_1, en]
              exact hi2 _
            · exact absurd hz c_81
      · have hc : chS (M 76) x (n - (k + 1)) R = upd R (sb x (n - (k + 1))) (R (sb x (n - (k + 1))) ||| 1 <<< (nI (n - (k + 1)) &&& 31)) := if_pos ⟨hb, hz⟩
        rw [hc] at hi2
        skip
        refine x_iload_n dX0_findChains_52 rfl ?_
        refine x_aload_n dX0_findChains_53 rfl ?_
        refine y_getI fkX0_55 dX0_findChains_54 (by decide) rfl rfl ?_
        rw [h4']
        refine x_icmp_ge 112 dX0_findChains_57 (by decide) (fun c_57 => ?_) (fun c_57 => ?_)
        · exact absurd c_57 hnle
        · refine x_iload_n dX0_findChains_60 rfl ?_
          refine x_iload_n dX0_findChains_61 rfl ?_
          refine y_callSN (as := [_, _]) okX5_holds nsX0_69 dX0_findChains_62 rfl (hh) (by omega) rfl (by simp [Value.category]) (Nat.le_of_ble_eq_true rfl) (cat8 rfl) ?_
          refine x_if_ne 106 dX0_findChains_65 (by decide) (fun c_65 => ?_) (fun c_65 => ?_)
          · exact absurd rfl c_65
          · refine x_aload_n dX0_findChains_68 rfl ?_
            refine y_getR fkX0_15 dX0_findChains_69 (by decide) rfl rfl ?_
            refine x_iload_n dX0_findChains_72 rfl ?_
            refine y_ialdn (j := x) dX0_findChains_73 (by decide) rfl (ixN (by omega)) (by omega) ?_
            rw [e77]
            refine x_aload_n dX0_findChains_74 rfl ?_
            refine y_getR fkX0_9 dX0_findChains_75 (by decide) rfl rfl ?_
            refine x_iload_n dX0_findChains_78 rfl ?_
            refine y_ialdn (j := (n - (k + 1))) dX0_findChains_79 (by decide) rfl (ixN (by omega)) (by omega) ?_
            rw [e76]
            refine x_iand dX0_findChains_80 ?_
            refine x_if_eq 106 dX0_findChains_81 (by decide) (fun c_81 => ?_) (fun c_81 => ?_)
            · exact absurd c_81 hz
            · refine x_iload_n dX0_findChains_84 rfl ?_
              refine x_iload_n dX0_findChains_85 rfl ?_
              refine y_callSN (as := [_, _]) okX5_with nsX0_73 dX0_findChains_86 rfl (hw) (by omega) rfl (by simp [Value.category]) (Nat.le_of_ble_eq_true rfl) (cat8 rfl) ?_
              refine x_istore_n dX0_findChains_89 (by decide) rfl ?_
              refine x_aload_n dX0_findChains_90 rfl ?_
              refine y_getR fkX0_15 dX0_findChains_91 (by decide) rfl rfl ?_
              refine x_iload_n dX0_findChains_94 rfl ?_
              refine x_aload_n dX0_findChains_95 rfl ?_
              refine y_getR fkX0_15 dX0_findChains_96 (by decide) rfl rfl ?_
              refine x_iload_n dX0_findChains_99 rfl ?_
              refine y_ialdn (j := (sb x (n - (k + 1)))) dX0_findChains_100 (by decide) rfl (ixN (by omega)) (by omega) ?_
              rw [e77]
              refine x_iload_n dX0_findChains_101 rfl ?_
              refine y_callSN (as := [_, _]) okX5_with nsX0_73 dX0_findChains_102 rfl (y_with) (by omega) rfl (by simp [Value.category]) (Nat.le_of_ble_eq_true rfl) (cat8 rfl) ?_
              refine y_iastn (j := (sb x (n - (k + 1)))) dX0_findChains_105 (by decide) rfl (ixN (by omega)) (by omega) ?_
              refine x_iincv (v := 1) dX0_findChains_106 rfl (by decide) rfl (by decide) ?_
              refine x_goto 52 dX0_findChains_109 (by decide) ?_
              rw [updM_row, row_row, e77, nI_1, en]
              exact hi2 _
theorem y_ch_out {n : Nat} (hn : n ≤ 7) {M : Mem} (h4 : M 75 4 = nI n) (h5 : M 75 5 = nI (2 ^ n)) : ∀ (k : Nat) (R : Row) (l2 l3 : Option Value), k ≤ 2 ^ n → Y 2 mX0_findChains 37 [some (.ref 75), some (.int (nI (2 ^ n - k))), l2, l3] [] (setR M 77 R) none (setR M 77 (chO (M 76) n (2 ^ n) k R)) := by
  have h4' : ∀ R : Row, setR M 77 R 75 4 = nI n := fun R => by rw [row_ne (by decide)]; exact h4
  have h5' : ∀ R : Row, setR M 77 R 75 5 = nI (2 ^ n) := fun R => by rw [row_ne (by decide)]; exact h5
  have hp := p2_le hn
  intro k
  induction k with
  | zero =>
    intro R l2 l3 hk
    rw [chO, Nat.sub_zero]
    skip
    refine x_iload_n dX0_findChains_37 rfl ?_
    refine x_aload_n dX0_findChains_38 rfl ?_
    refine y_getI fkX0_56 dX0_findChains_39 (by decide) rfl rfl ?_
    rw [h5']
    refine x_icmp_ge 118 dX0_findChains_42 (by decide) (fun c_42 => ?_) (fun c_42 => ?_)
    · exact y_vret dX0_findChains_118 rfl (rfl)
    · exact absurd (Int32.le_refl _) c_42
  | succ k ih =>
    intro R l2 l3 hk
    rw [chO]
    have hnle : ¬ nI (2 ^ n) ≤ nI (2 ^ n - (k + 1)) := nI_ge (by omega) (by omega)
    have en : 2 ^ n - (k + 1) + 1 = 2 ^ n - k := by omega
    have hbk : ∀ l2 l3 : Option Value, Y 2 mX0_findChains 112 [some (.ref 75), some (.int (nI (2 ^ n - (k + 1)))), l2, l3] [] (setR M 77 (chI (M 76) n (2 ^ n - (k + 1)) (n - (lo (2 ^ n - (k + 1)) + 1)) R)) none (setR M 77 (chO (M 76) n (2 ^ n) k (chI (M 76) n (2 ^ n - (k + 1)) (n - (lo (2 ^ n - (k + 1)) + 1)) R))) := fun l2 l3 => by
      have hi2 := ih (chI (M 76) n (2 ^ n - (k + 1)) (n - (lo (2 ^ n - (k + 1)) + 1)) R) l2 l3 (by omega)
      skip
      refine x_iincv (v := 1) dX0_findChains_112 rfl (by decide) rfl (by decide) ?_
      refine x_goto 37 dX0_findChains_115 (by decide) ?_
      rw [nI_1, en]
      exact hi2
    have hlo := lo_le (2 ^ n - (k + 1))
    by_cases hlt : lo (2 ^ n - (k + 1)) + 1 ≤ n
    · have hin := y_ch_in hn h4 h5 (x := 2 ^ n - (k + 1)) (by omega) (n - (lo (2 ^ n - (k + 1)) + 1)) R l3 (by omega) (fun l3 => hbk _ l3)
      rw [show n - (n - (lo (2 ^ n - (k + 1)) + 1)) = lo (2 ^ n - (k + 1)) + 1 by omega] at hin
      skip
      refine x_iload_n dX0_findChains_37 rfl ?_
      refine x_aload_n dX0_findChains_38 rfl ?_
      refine y_getI fkX0_56 dX0_findChains_39 (by decide) rfl rfl ?_
      rw [h5']
      refine x_icmp_ge 118 dX0_findChains_42 (by decide) (fun c_42 => ?_) (fun c_42 => ?_)
      · exact absurd c_42 hnle
      · refine x_iload_n dX0_findChains_45 rfl ?_
        refine y_callS (as := [_]) okX0_leastOf lkX0_76 dX0_findChains_46 rfl (y_least) (by omega) rfl (by simp [Value.category]) (Nat.le_of_ble_eq_true rfl) (cat8 rfl) ?_
        refine x_iconstv (v := 1) dX0_findChains_49 (by decide) ?_
        refine x_iadd dX0_findChains_50 ?_
        refine x_istore_n dX0_findChains_51 (by decide) rfl ?_
        rw [nI_1]
        exact hin
    · have e0 : n - (lo (2 ^ n - (k + 1)) + 1) = 0 := by omega
      rw [e0, chI] at hbk ⊢
      have hle : nI n ≤ nI (lo (2 ^ n - (k + 1)) + 1) := nI_le (by omega) (by omega)
      skip
      refine x_iload_n dX0_findChains_37 rfl ?_
      refine x_aload_n dX0_findChains_38 rfl ?_
      refine y_getI fkX0_56 dX0_findChains_39 (by decide) rfl rfl ?_
      rw [h5']
      refine x_icmp_ge 118 dX0_findChains_42 (by decide) (fun c_42 => ?_) (fun c_42 => ?_)
      · exact absurd c_42 hnle
      · refine x_iload_n dX0_findChains_45 rfl ?_
        refine y_callS (as := [_]) okX0_leastOf lkX0_76 dX0_findChains_46 rfl (y_least) (by omega) rfl (by simp [Value.category]) (Nat.le_of_ble_eq_true rfl) (cat8 rfl) ?_
        refine x_iconstv (v := 1) dX0_findChains_49 (by decide) ?_
        refine x_iadd dX0_findChains_50 ?_
        rw [nI_1]
        refine x_istore_n dX0_findChains_51 (by decide) rfl ?_
        refine x_iload_n dX0_findChains_52 rfl ?_
        refine x_aload_n dX0_findChains_53 rfl ?_
        refine y_getI fkX0_55 dX0_findChains_54 (by decide) rfl rfl ?_
        rw [h4']
        refine x_icmp_ge 112 dX0_findChains_57 (by decide) (fun c_57 => ?_) (fun c_57 => ?_)
        · exact hbk _ _
        · exact absurd hle c_57
theorem y_findChains {n : Nat} (hn : n ≤ 7) {M : Mem} (h4 : M 75 4 = nI n) (h5 : M 75 5 = nI (2 ^ n)) : Y 2 mX0_findChains 0 (lent 4 [.ref 75]) [] M none (setR M 77 (chO (M 76) n (2 ^ n) (2 ^ n - 1) (sgl n (rowN (fun _ => 0) 128 (M 77))))) := by
  have hp : 0 < 2 ^ n := Nat.two_pow_pos n
  have ho := fun l2 => y_ch_out hn h4 h5 (2 ^ n - 1) (sgl n (rowN (fun _ => 0) 128 (M 77))) l2 none (by omega)
  rw [show 2 ^ n - (2 ^ n - 1) = 1 by omega] at ho
  have h := y_sgl hn h4 h5 (W := rowN (fun _ => 0) 128 (M 77)) (fun l1 => by
    skip
    refine x_iconstv (v := 1) dX0_findChains_35 (by decide) ?_
    refine x_istore_n dX0_findChains_36 (by decide) rfl ?_
    exact ho _) n 0 (by omega)
  rw [sgl] at h
  skip
  refine x_aload_n dX0_findChains_0 rfl ?_
  refine y_getR fkX0_15 dX0_findChains_1 (by decide) rfl rfl ?_
  refine x_iconstv (v := 0) dX0_findChains_4 (by decide) ?_
  refine y_callS (as := [_, _]) okJ7_fill_53178 lkX0_59 dX0_findChains_5 rfl ((y_fill77.more (d' := 1) (by omega))) (by omega) rfl (by simp [Value.category]) (Nat.le_of_ble_eq_true rfl) (cat8 rfl) ?_
  refine x_iconstv (v := 0) dX0_findChains_8 (by decide) ?_
  refine x_istore_n dX0_findChains_9 (by decide) rfl ?_
  exact h
theorem y_ci_loop {n : Nat} (hn : n ≤ 7) {M : Mem} (h4 : M 75 4 = nI n) (h5 : M 75 5 = nI (2 ^ n)) {L : Nat} (hL : L ≤ 7) : ∀ (k : Nat) (W : Row) (l3 : Option Value), k < 2 ^ n → Y 2 mX0_findCircles 2 [some (.ref 75), some (.int (nI L)), some (.int (nI (2 ^ n - k))), l3] [] (setR M 78 (ciR (M 77) (M 76) L (2 ^ n - k) W)) none (setR M 78 (ciR (M 77) (M 76) L (2 ^ n) W)) := by
  have h5' : ∀ R : Row, setR M 78 R 75 5 = nI (2 ^ n) := fun R => by rw [row_ne (by decide)]; exact h5
  have hp := p2_le hn
  intro k
  induction k with
  | zero =>
    intro W l3 hk
    rw [Nat.sub_zero]
    skip
    refine x_iload_n dX0_findCircles_2 rfl ?_
    refine x_aload_n dX0_findCircles_3 rfl ?_
    refine y_getI fkX0_56 dX0_findCircles_4 (by decide) rfl rfl ?_
    rw [h5']
    refine x_icmp_ge 61 dX0_findCircles_7 (by decide) (fun c_7 => ?_) (fun c_7 => ?_)
    · exact y_vret dX0_findCircles_61 rfl (rfl)
    · exact absurd (Int32.le_refl _) c_7
  | succ k ih =>
    intro W l3 hk
    have hnle : ¬ nI (2 ^ n) ≤ nI (2 ^ n - (k + 1)) := nI_ge (by omega) (by omega)
    have en : 2 ^ n - (k + 1) + 1 = 2 ^ n - k := by omega
    have hi2 := fun l3 => ih W l3 (by omega)
    rw [← en] at hi2
    rw [← ciR_s (by omega)] at hi2
    have e77 : ∀ R : Row, setR M 78 R 77 = M 77 := fun R => row_ne (by decide)
    have e76 : ∀ R : Row, setR M 78 R 76 = M 76 := fun R => row_ne (by decide)
    have hlo := lo_le (2 ^ n - (k + 1))
    generalize hx : 2 ^ n - (k + 1) = x at *
    have hx7 : x < 128 := by omega
    have hcc : ∀ v : Int32, v = b2i (cirB (M 77) (M 76) L x) → Y 2 mX0_findCircles 54 [some (.ref 75), some (.int (nI L)), some (.int (nI x)), some (.int (bc (nI x)))] [.int v, .int (nI x), .ref 78] (setR M 78 (ciR (M 77) (M 76) L x W)) none (setR M 78 (ciR (M 77) (M 76) L (2 ^ n) W)) := fun v hv => by
      subst hv
      have hi3 := hi2 (some (.int (bc (nI x))))
      skip
      refine y_bastn (j := x) dX0_findCircles_54 (by decide) rfl (ixN (by omega)) (by omega) ?_
      rw [b2i_a1]
      refine x_iincv (v := 1) dX0_findCircles_55 rfl (by decide) rfl (by decide) ?_
      refine x_goto 2 dX0_findCircles_58 (by decide) ?_
      rw [updM_row, row_row, row_at, nI_1]
      exact hi3
    skip
    refine x_iload_n dX0_findCircles_2 rfl ?_
    refine x_aload_n dX0_findCircles_3 rfl ?_
    refine y_getI fkX0_56 dX0_findCircles_4 (by decide) rfl rfl ?_
    rw [h5']
    refine x_icmp_ge 61 dX0_findCircles_7 (by decide) (fun c_7 => ?_) (fun c_7 => ?_)
    · exact absurd c_7 hnle
    · refine x_iload_n dX0_findCircles_10 rfl ?_
      refine y_callS (as := [_]) okJ6_bitCount_0f7a4 lkX0_79 dX0_findCircles_11 rfl (y_bitCount) (by omega) rfl (by simp [Value.category]) (Nat.le_of_ble_eq_true rfl) (cat8 rfl) ?_
      refine x_istore_n dX0_findCircles_14 (by decide) rfl ?_
      refine x_aload_n dX0_findCircles_15 rfl ?_
      refine y_getR fkX0_18 dX0_findCircles_16 (by decide) rfl rfl ?_
      refine x_iload_n dX0_findCircles_19 rfl ?_
      refine x_iload_n dX0_findCircles_20 rfl ?_
      refine x_iconstv (v := 2) dX0_findCircles_21 (by decide) ?_
      refine x_icmp_lt 53 dX0_findCircles_22 (by decide) (fun c_22 => ?_) (fun c_22 => ?_)
      · refine x_iconstv (v := 0) dX0_findCircles_53 (by decide) ?_
        refine hcc _ ?_
        clear hcc hi2 ih
        unfold cirB
        first | (simp_all [b2i]; done) | (simp_all [b2i]; intro q; exact absurd c_27 (Int32.not_lt.mpr q))
      · refine x_iload_n dX0_findCircles_25 rfl ?_
        refine x_iload_n dX0_findCircles_26 rfl ?_
        refine x_icmp_gt 53 dX0_findCircles_27 (by decide) (fun c_27 => ?_) (fun c_27 => ?_)
        · refine x_iconstv (v := 0) dX0_findCircles_53 (by decide) ?_
          refine hcc _ ?_
          clear hcc hi2 ih
          unfold cirB
          first | (simp_all [b2i]; done) | (simp_all [b2i]; intro q; exact absurd c_27 (Int32.not_lt.mpr q))
        · refine x_aload_n dX0_findCircles_30 rfl ?_
          refine y_getR fkX0_15 dX0_findCircles_31 (by decide) rfl rfl ?_
          refine x_iload_n dX0_findCircles_34 rfl ?_
          refine y_ialdn (j := x) dX0_findCircles_35 (by decide) rfl (ixN (by omega)) (by omega) ?_
          rw [e77]
          refine x_aload_n dX0_findCircles_36 rfl ?_
          refine y_getR fkX0_9 dX0_findCircles_37 (by decide) rfl rfl ?_
          refine x_iload_n dX0_findCircles_40 rfl ?_
          refine y_callS (as := [_]) okX0_leastOf lkX0_76 dX0_findCircles_41 rfl (y_least) (by omega) rfl (by simp [Value.category]) (Nat.le_of_ble_eq_true rfl) (cat8 rfl) ?_
          refine y_ialdn (j := (lo x)) dX0_findCircles_44 (by decide) rfl (ixN (by omega)) (by omega) ?_
          rw [e76]
          refine x_iand dX0_findCircles_45 ?_
          refine x_if_eq 53 dX0_findCircles_46 (by decide) (fun c_46 => ?_) (fun c_46 => ?_)
          · refine x_iconstv (v := 0) dX0_findCircles_53 (by decide) ?_
            refine hcc _ ?_
            clear hcc hi2 ih
            unfold cirB
            first | (simp_all [b2i]; done) | (simp_all [b2i]; intro q; exact absurd c_27 (Int32.not_lt.mpr q))
          · refine x_iconstv (v := 1) dX0_findCircles_49 (by decide) ?_
            refine x_goto 54 dX0_findCircles_50 (by decide) ?_
            refine hcc _ ?_
            clear hcc hi2 ih
            unfold cirB
            first | (simp_all [b2i]; done) | (simp_all [b2i]; intro q; exact absurd c_27 (Int32.not_lt.mpr q))
theorem y_findCircles {n : Nat} (hn : n ≤ 7) {M : Mem} (h4 : M 75 4 = nI n) (h5 : M 75 5 = nI (2 ^ n)) {L : Nat} (hL : L ≤ 7) : Y 2 mX0_findCircles 0 (lent 4 [.ref 75, .int (nI L)]) [] M none (setR M 78 (ciR (M 77) (M 76) L (2 ^ n) (M 78))) := by
  have hp : 0 < 2 ^ n := Nat.two_pow_pos n
  have h := y_ci_loop hn h4 h5 hL (2 ^ n - 1) (M 78) none (by omega)
  rw [show 2 ^ n - (2 ^ n - 1) = 1 by omega] at h
  have e1 : ciR (M 77) (M 76) L 1 (M 78) = M 78 := by
    funext y
    unfold ciR
    rw [if_neg (by omega)]
  rw [e1, row_self] at h
  skip
  refine x_iconstv (v := 1) dX0_findCircles_0 (by decide) ?_
  refine x_istore_n dX0_findCircles_1 (by decide) rfl ?_
  exact h
theorem y_mc_loop {M : Mem} {x l o : Nat} (hl : l < 128) (ho : o < 128) : ∀ (k s : Nat), s < k → s < 128 → Y 0 mX0_isMadeOfCircles 13 [some (.ref 75), some (.int (nI x)), some (.int (nI o)), some (.int (nI l)), some (.int (nI s))] [] M (some (.int (b2i (mcL (M 78) (M 79) l o k s)))) M := by
  intro k
  induction k with
  | zero => intro s h1 h2; omega
  | succ k ih =>
    intro s hs hs7
    rw [mcL]
    by_cases h0 : s = 0
    · subst h0
      rw [if_pos rfl]
      have hle : nI 0 ≤ 0 := by decide
      skip
      refine x_iload dX0_isMadeOfCircles_13 rfl ?_
      refine x_if_le 55 dX0_isMadeOfCircles_15 (by decide) (fun c_15 => ?_) (fun c_15 => ?_)
      · refine x_iconstv (v := 0) dX0_isMadeOfCircles_55 (by decide) ?_
        exact y_ret dX0_isMadeOfCircles_56 rfl (rfl) (rfl) (rfl)
      · exact absurd hle c_15
    · rw [if_neg h0]
      have hnle : ¬ nI s ≤ 0 := nI_nle (by omega) (by omega)
      have h1 := or_lt7 hl hs7
      have h2 := xor_lt7 ho hs7
      have h3 := and_sub (s := s) (o := o) h0
      have hi2 := ih ((s - 1) &&& o) (by omega) (by omega)
      have e1 : nI s - 1 = nI (s - 1) := by
        have := nI_s1 (s - 1)
        rw [show s - 1 + 1 = s by omega] at this
        exact this
      by_cases hc : ¬ M 78 (l ||| s) = 0 ∧ ¬ M 79 (o ^^^ s) = 0
      · rw [if_pos hc]
        skip
        refine x_iload dX0_isMadeOfCircles_13 rfl ?_
        refine x_if_le 55 dX0_isMadeOfCircles_15 (by decide) (fun c_15 => ?_) (fun c_15 => ?_)
        · exact absurd c_15 hnle
        · refine x_aload_n dX0_isMadeOfCircles_18 rfl ?_
          refine y_getR fkX0_18 dX0_isMadeOfCircles_19 (by decide) rfl rfl ?_
          refine x_iload_n dX0_isMadeOfCircles_22 rfl ?_
          refine x_iload dX0_isMadeOfCircles_23 rfl ?_
          refine x_ior dX0_isMadeOfCircles_25 ?_
          rw [nI_or]
          refine y_baldn (j := (l ||| s)) dX0_isMadeOfCircles_26 (by decide) rfl (ixN (by omega)) (by omega) ?_
          refine x_if_eq 44 dX0_isMadeOfCircles_27 (by decide) (fun c_27 => ?_) (fun c_27 => ?_)
          · exact absurd c_27 hc.1
          · refine x_aload_n dX0_isMadeOfCircles_30 rfl ?_
            refine y_getR fkX0_22 dX0_isMadeOfCircles_31 (by decide) rfl rfl ?_
            refine x_iload_n dX0_isMadeOfCircles_34 rfl ?_
            refine x_iload dX0_isMadeOfCircles_35 rfl ?_
            refine x_ixor dX0_isMadeOfCircles_37 ?_
            rw [nI_xor]
            refine y_baldn (j := (o ^^^ s)) dX0_isMadeOfCircles_38 (by decide) rfl (ixN (by omega)) (by omega) ?_
            refine x_if_eq 44 dX0_isMadeOfCircles_39 (by decide) (fun c_39 => ?_) (fun c_39 => ?_)
            · exact absurd c_39 hc.2
            · refine x_iconstv (v := 1) dX0_isMadeOfCircles_42 (by decide) ?_
              exact y_ret dX0_isMadeOfCircles_43 rfl (rfl) (rfl) (rfl)
      · rw [if_neg hc]
        skip
        refine x_iload dX0_isMadeOfCircles_13 rfl ?_
        refine x_if_le 55 dX0_isMadeOfCircles_15 (by decide) (fun c_15 => ?_) (fun c_15 => ?_)
        · exact absurd c_15 hnle
        · refine x_aload_n dX0_isMadeOfCircles_18 rfl ?_
          refine y_getR fkX0_18 dX0_isMadeOfCircles_19 (by decide) rfl rfl ?_
          refine x_iload_n dX0_isMadeOfCircles_22 rfl ?_
          refine x_iload dX0_isMadeOfCircles_23 rfl ?_
          refine x_ior dX0_isMadeOfCircles_25 ?_
          rw [nI_or]
          refine y_baldn (j := (l ||| s)) dX0_isMadeOfCircles_26 (by decide) rfl (ixN (by omega)) (by omega) ?_
          refine x_if_eq 44 dX0_isMadeOfCircles_27 (by decide) (fun c_27 => ?_) (fun c_27 => ?_)
          · refine x_iload dX0_isMadeOfCircles_44 rfl ?_
            refine x_iconstv (v := 1) dX0_isMadeOfCircles_46 (by decide) ?_
            refine x_isub dX0_isMadeOfCircles_47 ?_
            rw [e1]
            refine x_iload_n dX0_isMadeOfCircles_48 rfl ?_
            refine x_iand dX0_isMadeOfCircles_49 ?_
            rw [nI_and]
            refine x_istore dX0_isMadeOfCircles_50 (by decide) rfl ?_
            refine x_goto 13 dX0_isMadeOfCircles_52 (by decide) ?_
            exact hi2
          · refine x_aload_n dX0_isMadeOfCircles_30 rfl ?_
            refine y_getR fkX0_22 dX0_isMadeOfCircles_31 (by decide) rfl rfl ?_
            refine x_iload_n dX0_isMadeOfCircles_34 rfl ?_
            refine x_iload dX0_isMadeOfCircles_35 rfl ?_
            refine x_ixor dX0_isMadeOfCircles_37 ?_
            rw [nI_xor]
            refine y_baldn (j := (o ^^^ s)) dX0_isMadeOfCircles_38 (by decide) rfl (ixN (by omega)) (by omega) ?_
            refine x_if_eq 44 dX0_isMadeOfCircles_39 (by decide) (fun c_39 => ?_) (fun c_39 => ?_)
            · refine x_iload dX0_isMadeOfCircles_44 rfl ?_
              refine x_iconstv (v := 1) dX0_isMadeOfCircles_46 (by decide) ?_
              refine x_isub dX0_isMadeOfCircles_47 ?_
              rw [e1]
              refine x_iload_n dX0_isMadeOfCircles_48 rfl ?_
              refine x_iand dX0_isMadeOfCircles_49 ?_
              rw [nI_and]
              refine x_istore dX0_isMadeOfCircles_50 (by decide) rfl ?_
              refine x_goto 13 dX0_isMadeOfCircles_52 (by decide) ?_
              exact hi2
            · exact absurd ⟨c_27, c_39⟩ hc
theorem y_isMade {M : Mem} {x : Nat} (hx : x < 128) (hx0 : x ≠ 0) : Y 0 mX0_isMadeOfCircles 0 (lent 5 [.ref 75, .int (nI x)]) [] M (some (.int (b2i (mcB (M 78) (M 79) x)))) M := by
  have e1 : nI x - 1 = nI (x - 1) := by
    have := nI_s1 (x - 1)
    rw [show x - 1 + 1 = x by omega] at this
    exact this
  have ho : x &&& (x - 1) < 128 := and_lt7 hx
  have hl : x ^^^ (x &&& (x - 1)) < 128 := xor_lt7 hx ho
  have h := y_mc_loop (M := M) (x := x) hl ho 128 (x &&& (x - 1)) ho ho
  skip
  refine x_iload_n dX0_isMadeOfCircles_0 rfl ?_
  refine x_iload_n dX0_isMadeOfCircles_1 rfl ?_
  refine x_iconstv (v := 1) dX0_isMadeOfCircles_2 (by decide) ?_
  refine x_isub dX0_isMadeOfCircles_3 ?_
  rw [e1]
  refine x_iand dX0_isMadeOfCircles_4 ?_
  rw [nI_and]
  refine x_istore_n dX0_isMadeOfCircles_5 (by decide) rfl ?_
  refine x_iload_n dX0_isMadeOfCircles_6 rfl ?_
  refine x_iload_n dX0_isMadeOfCircles_7 rfl ?_
  refine x_ixor dX0_isMadeOfCircles_8 ?_
  rw [nI_xor]
  refine x_istore_n dX0_isMadeOfCircles_9 (by decide) rfl ?_
  refine x_iload_n dX0_isMadeOfCircles_10 rfl ?_
  refine x_istore dX0_isMadeOfCircles_11 (by decide) rfl ?_
  exact h
theorem y_bt_loop {n : Nat} (hn : n ≤ 7) {M : Mem} (h4 : M 75 4 = nI n) (h5 : M 75 5 = nI (2 ^ n)) : ∀ (k : Nat) (a : Int32) (B : Row), k < 2 ^ n → Y 1 mX0_findBarters 11 [some (.ref 75), some (.int a), some (.int (nI (2 ^ n - k)))] [] (setR M 79 B) (some (.int (btO (M 78) (2 ^ n) k a B).1)) (setR M 79 (btO (M 78) (2 ^ n) k a B).2) := by
  have h5' : ∀ R : Row, setR M 79 R 75 5 = nI (2 ^ n) := fun R => by rw [row_ne (by decide)]; exact h5
  have hp := p2_le hn
  intro k
  induction k with
  | zero =>
    intro a B hk
    rw [btO, Nat.sub_zero]
    skip
    refine x_iload_n dX0_findBarters_11 rfl ?_
    refine x_aload_n dX0_findBarters_12 rfl ?_
    refine y_getI fkX0_56 dX0_findBarters_13 (by decide) rfl rfl ?_
    rw [h5']
    refine x_icmp_ge 54 dX0_findBarters_16 (by decide) (fun c_16 => ?_) (fun c_16 => ?_)
    · refine x_iload_n dX0_findBarters_54 rfl ?_
      exact y_ret dX0_findBarters_55 rfl (rfl) (rfl) (rfl)
    · exact absurd (Int32.le_refl _) c_16
  | succ k ih =>
    intro a B hk
    rw [btO]
    have hnle : ¬ nI (2 ^ n) ≤ nI (2 ^ n - (k + 1)) := nI_ge (by omega) (by omega)
    have en : 2 ^ n - (k + 1) + 1 = 2 ^ n - k := by omega
    have hm := y_isMade (M := setR M 79 B) (x := 2 ^ n - (k + 1)) (by omega) (by omega)
    rw [row_at, row_ne (k := 78) (by decide)] at hm
    have hi2 := fun a B => ih a B (by omega)
    rw [← en] at hi2
    generalize hx : 2 ^ n - (k + 1) = x at *
    have hu : updM (setR M 79 B) 79 x (b2i (mcB (M 78) B x)) = setR M 79 (upd B x (b2i (mcB (M 78) B x))) := by rw [updM_row, row_row, row_at]
    have hg : setR M 79 (upd B x (b2i (mcB (M 78) B x))) 79 x = b2i (mcB (M 78) B x) := by rw [row_at]; simp [upd]
    cases hb : mcB (M 78) B x with
    | true =>
      rw [hb] at hm hu hg
      rw [if_pos rfl]
      have hi3 := hi2 (if a < bc (nI x) then bc (nI x) else a) (upd B x (b2i true))
      skip
      refine x_iload_n dX0_findBarters_11 rfl ?_
      refine x_aload_n dX0_findBarters_12 rfl ?_
      refine y_getI fkX0_56 dX0_findBarters_13 (by decide) rfl rfl ?_
      rw [h5']
      refine x_icmp_ge 54 dX0_findBarters_16 (by decide) (fun c_16 => ?_) (fun c_16 => ?_)
      · exact absurd c_16 hnle
      · refine x_aload_n dX0_findBarters_19 rfl ?_
        refine y_getR fkX0_22 dX0_findBarters_20 (by decide) rfl rfl ?_
        refine x_iload_n dX0_findBarters_23 rfl ?_
        refine x_aload_n dX0_findBarters_24 rfl ?_
        refine x_iload_n dX0_findBarters_25 rfl ?_
        refine y_callV (as := [_]) okX0_isMadeOfCircles lkX0_84 dX0_findBarters_26 rfl (by decide) rfl (hm) (by omega) rfl (by simp [Value.category]) (Nat.le_of_ble_eq_true rfl) rfl rfl (cat8 rfl) ?_
        refine y_bastn (j := x) dX0_findBarters_29 (by decide) rfl (ixN (by omega)) (by omega) ?_
        rw [b2i_a1, hu]
        refine x_aload_n dX0_findBarters_30 rfl ?_
        refine y_getR fkX0_22 dX0_findBarters_31 (by decide) rfl rfl ?_
        refine x_iload_n dX0_findBarters_34 rfl ?_
        refine y_baldn (j := x) dX0_findBarters_35 (by decide) rfl (ixN (by omega)) (by omega) ?_
        rw [hg]
        refine x_if_eq 48 dX0_findBarters_36 (by decide) (fun c_36 => ?_) (fun c_36 => ?_)
        · exact absurd c_36 (by decide)
        · refine x_iload_n dX0_findBarters_39 rfl ?_
          refine x_iload_n dX0_findBarters_40 rfl ?_
          refine y_callS (as := [_]) okJ6_bitCount_0f7a4 lkX0_79 dX0_findBarters_41 rfl (y_bitCount) (by omega) rfl (by simp [Value.category]) (Nat.le_of_ble_eq_true rfl) (cat8 rfl) ?_
          refine x_mmax lkX0_52 dX0_findBarters_44 (by omega) (cat8 rfl) ?_
          refine x_istore_n dX0_findBarters_47 (by decide) rfl ?_
          refine x_iincv (v := 1) dX0_findBarters_48 rfl (by decide) rfl (by decide) ?_
          refine x_goto 11 dX0_findBarters_51 (by decide) ?_
          rw [nI_1]
          exact hi3
    | false =>
      rw [hb] at hm hu hg
      rw [if_neg (by decide)]
      have hi3 := hi2 a (upd B x (b2i false))
      skip
      refine x_iload_n dX0_findBarters_11 rfl ?_
      refine x_aload_n dX0_findBarters_12 rfl ?_
      refine y_getI fkX0_56 dX0_findBarters_13 (by decide) rfl rfl ?_
      rw [h5']
      refine x_icmp_ge 54 dX0_findBarters_16 (by decide) (fun c_16 => ?_) (fun c_16 => ?_)
      · exact absurd c_16 hnle
      · refine x_aload_n dX0_findBarters_19 rfl ?_
        refine y_getR fkX0_22 dX0_findBarters_20 (by decide) rfl rfl ?_
        refine x_iload_n dX0_findBarters_23 rfl ?_
        refine x_aload_n dX0_findBarters_24 rfl ?_
        refine x_iload_n dX0_findBarters_25 rfl ?_
        refine y_callV (as := [_]) okX0_isMadeOfCircles lkX0_84 dX0_findBarters_26 rfl (by decide) rfl (hm) (by omega) rfl (by simp [Value.category]) (Nat.le_of_ble_eq_true rfl) rfl rfl (cat8 rfl) ?_
        refine y_bastn (j := x) dX0_findBarters_29 (by decide) rfl (ixN (by omega)) (by omega) ?_
        rw [b2i_a1, hu]
        refine x_aload_n dX0_findBarters_30 rfl ?_
        refine y_getR fkX0_22 dX0_findBarters_31 (by decide) rfl rfl ?_
        refine x_iload_n dX0_findBarters_34 rfl ?_
        refine y_baldn (j := x) dX0_findBarters_35 (by decide) rfl (ixN (by omega)) (by omega) ?_
        rw [hg]
        refine x_if_eq 48 dX0_findBarters_36 (by decide) (fun c_36 => ?_) (fun c_36 => ?_)
        · refine x_iincv (v := 1) dX0_findBarters_48 rfl (by decide) rfl (by decide) ?_
          refine x_goto 11 dX0_findBarters_51 (by decide) ?_
          rw [nI_1]
          exact hi3
        · exact absurd rfl c_36
theorem y_findBarters {n : Nat} (hn : n ≤ 7) {M : Mem} (h4 : M 75 4 = nI n) (h5 : M 75 5 = nI (2 ^ n)) : Y 1 mX0_findBarters 0 (lent 3 [.ref 75]) [] M (some (.int (btO (M 78) (2 ^ n) (2 ^ n - 1) 0 (upd (M 79) 0 1)).1)) (setR M 79 (btO (M 78) (2 ^ n) (2 ^ n - 1) 0 (upd (M 79) 0 1)).2) := by
  have hp : 0 < 2 ^ n := Nat.two_pow_pos n
  have h := y_bt_loop hn h4 h5 (2 ^ n - 1) 0 (upd (M 79) 0 1) (by omega)
  rw [show 2 ^ n - (2 ^ n - 1) = 1 by omega] at h
  skip
  refine x_iconstv (v := 0) dX0_findBarters_0 (by decide) ?_
  refine x_istore_n dX0_findBarters_1 (by decide) rfl ?_
  refine x_aload_n dX0_findBarters_2 rfl ?_
  refine y_getR fkX0_22 dX0_findBarters_3 (by decide) rfl rfl ?_
  refine x_iconstv (v := 0) dX0_findBarters_6 (by decide) ?_
  refine x_iconstv (v := 1) dX0_findBarters_7 (by decide) ?_
  refine y_bastn (j := 0) dX0_findBarters_8 (by decide) rfl (by decide) (by decide) ?_
  refine x_iconstv (v := 1) dX0_findBarters_9 (by decide) ?_
  refine x_istore_n dX0_findBarters_10 (by decide) rfl ?_
  rw [updM_row]
  exact h
