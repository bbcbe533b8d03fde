theorem y_signAt {M : Mem} {P : Row} {n : Nat} (hP : Pad P n) (hM : PadC M P n) {j : Nat} (hj : j < 2 ^ 31) : Y 0 mX3_signAt 0 (lent 2 [.ref 73, .int (nI j)]) [] M (some (.int (chF P n j))) M := by
  obtain ⟨hl, hs⟩ := hM
  have hn := hP.1
  by_cases h : j < n
  · have e : chF P n j = P j := by unfold chF; exact if_pos h
    rw [e]
    skip
    refine x_iload_n dX3_signAt_0 rfl ?_
    refine x_if_lt 27 dX3_signAt_1 (by decide) (fun c_1 => ?_) (fun c_1 => ?_)
    · exact absurd c_1 (nI_pos (by omega))
    · refine x_iload_n dX3_signAt_4 rfl ?_
      refine x_aload_n dX3_signAt_5 rfl ?_
      refine y_getI fkX3_15 dX3_signAt_6 (by decide) rfl rfl ?_
      rw [hl]
      refine x_icmp_ge 27 dX3_signAt_9 (by decide) (fun c_9 => ?_) (fun c_9 => ?_)
      · exact absurd c_9 (nI_ge h (by omega))
      · refine x_iload_n dX3_signAt_12 rfl ?_
        refine x_bipushv (v := 60) dX3_signAt_13 (by decide) ?_
        refine x_icmp_ge 27 dX3_signAt_15 (by decide) (fun c_15 => ?_) (fun c_15 => ?_)
        · exact absurd c_15 (nI_ge (a := j) (b := 60) (by omega) (by decide))
        · refine x_aload_n dX3_signAt_18 rfl ?_
          refine y_getR fkX3_9 dX3_signAt_19 (by decide) rfl rfl ?_
          refine x_iload_n dX3_signAt_22 rfl ?_
          refine y_caldn (j := j) dX3_signAt_23 (by decide) rfl (ixN (by omega)) (by omega) ?_
          rw [hs j h]
          refine x_goto 28 dX3_signAt_24 (by decide) ?_
          exact y_ret dX3_signAt_28 rfl ((code_nar (hP.2 j h)).1) (rfl) (rfl)
  · have e : chF P n j = 0 := by unfold chF; exact if_neg h
    rw [e]
    skip
    refine x_iload_n dX3_signAt_0 rfl ?_
    refine x_if_lt 27 dX3_signAt_1 (by decide) (fun c_1 => ?_) (fun c_1 => ?_)
    · exact absurd c_1 (nI_pos (by omega))
    · refine x_iload_n dX3_signAt_4 rfl ?_
      refine x_aload_n dX3_signAt_5 rfl ?_
      refine y_getI fkX3_15 dX3_signAt_6 (by decide) rfl rfl ?_
      rw [hl]
      refine x_icmp_ge 27 dX3_signAt_9 (by decide) (fun c_9 => ?_) (fun c_9 => ?_)
      · refine x_iconstv (v := 0) dX3_signAt_27 (by decide) ?_
        exact y_ret dX3_signAt_28 rfl (rfl) (rfl) (rfl)
      · exact absurd (nI_le (a := n) (b := j) (by omega) (by omega)) c_9
theorem y_digitAt {M : Mem} {P : Row} {n : Nat} (hP : Pad P n) (hM : PadC M P n) {j : Nat} (hj : j < 2 ^ 31) : Y 1 mX3_digitAt 0 (lent 2 [.ref 73, .int (nI j)]) [] M (some (.int (chF P n j - 48))) M := by
  refine x_aload_n dX3_digitAt_0 rfl ?_
  refine x_iload_n dX3_digitAt_1 rfl ?_
  refine y_callV (as := [_]) okX3_signAt lkX3_19 dX3_digitAt_2 rfl (by decide) rfl (y_signAt hP hM hj) (by omega) rfl (by simp [Value.category]) (Nat.le_of_ble_eq_true rfl) rfl rfl (cat8 rfl) ?_
  refine x_bipushv (v := 48) dX3_digitAt_5 (by decide) ?_
  refine x_isub dX3_digitAt_7 ?_
  exact y_ret dX3_digitAt_8 rfl (rfl) (rfl) (rfl)
theorem y_put {M : Mem} {P : Row} {n : Nat} (hP : Pad P n) (hM : PadC M P n) {x : Int32} (hx : 33 ≤ x ∧ x ≤ 126) (h60 : n < 60) : Y 0 mX3_put 0 (lent 2 [.ref 73, .int x]) [] M none (updM (updM M 74 n x) 73 0 (nI (n + 1))) := by
  obtain ⟨hl, hs⟩ := hM
  have hn := hP.1
  refine x_aload_n dX3_put_0 rfl ?_
  refine y_getI fkX3_15 dX3_put_1 (by decide) rfl rfl ?_
  rw [hl]
  refine x_if_lt 36 dX3_put_4 (by decide) (fun c_4 => ?_) (fun c_4 => ?_)
  · exact absurd c_4 (nI_pos (by omega))
  · refine x_aload_n dX3_put_7 rfl ?_
    refine y_getI fkX3_15 dX3_put_8 (by decide) rfl rfl ?_
    rw [hl]
    refine x_bipushv (v := 60) dX3_put_11 (by decide) ?_
    refine x_icmp_ge 36 dX3_put_13 (by decide) (fun c_13 => ?_) (fun c_13 => ?_)
    · exact absurd c_13 (nI_ge (a := n) (b := 60) h60 (by decide))
    · refine x_aload_n dX3_put_16 rfl ?_
      refine y_getR fkX3_9 dX3_put_17 (by decide) rfl rfl ?_
      refine x_aload_n dX3_put_20 rfl ?_
      refine y_getI fkX3_15 dX3_put_21 (by decide) rfl rfl ?_
      rw [hl]
      refine x_iload_n dX3_put_24 rfl ?_
      refine y_castn (j := n) dX3_put_25 (by decide) rfl (ixN (by omega)) (by omega) ?_
      rw [(code_nar hx).2.1]
      refine x_aload_n dX3_put_26 rfl ?_
      refine x_dup_r dX3_put_27 ?_
      refine y_getI fkX3_15 dX3_put_28 (by decide) rfl rfl ?_
      rw [updM_ne (k := 73) (by decide), hl]
      refine x_iconstv (v := 1) dX3_put_31 (by decide) ?_
      refine x_iadd dX3_put_32 ?_
      refine y_putI fkX3_15 dX3_put_33 (by decide) rfl rfl rfl rfl rfl ?_
      exact y_vret dX3_put_36 rfl (by rw [nI_1])
theorem y_ft_loop {M : Mem} {P : Row} {n : Nat} (hP : Pad P n) (hM : PadC M P n) : ∀ (k i : Nat) (st lw : Int32) (l4 : Option Value), i + k = n → Y 1 mX3_faultAsTraders 7 [some (.ref 73), some (.int st), some (.int lw), some (.int (nI i)), l4] [] M (some (.int (ftC P n k i st lw))) M := by
  have hM0 := hM
  obtain ⟨hl, hs⟩ := hM0
  have hn := hP.1
  intro k
  induction k with
  | zero =>
    intro i st lw l4 hi
    have he : i = n := by omega
    subst he
    by_cases h3 : st = 3
    · have e : ftC P i 0 i st lw = -4 := by rw [ftC]; exact if_pos h3
      rw [e]
      skip
      refine x_iload_n dX3_faultAsTraders_7 rfl ?_
      refine x_aload_n dX3_faultAsTraders_8 rfl ?_
      refine y_getI fkX3_15 dX3_faultAsTraders_9 (by decide) rfl rfl ?_
      rw [hl]
      refine x_icmp_ge 118 dX3_faultAsTraders_12 (by decide) (fun c_12 => ?_) (fun c_12 => ?_)
      · refine x_iload_n dX3_faultAsTraders_118 rfl ?_
        refine x_iconstv (v := 3) dX3_faultAsTraders_119 (by decide) ?_
        refine x_icmp_ne 128 dX3_faultAsTraders_120 (by decide) (fun c_120 => ?_) (fun c_120 => ?_)
        · exact absurd h3 c_120
        · refine x_bipushv (v := -4) dX3_faultAsTraders_123 (by decide) ?_
          refine x_goto 132 dX3_faultAsTraders_125 (by decide) ?_
          exact y_ret dX3_faultAsTraders_132 rfl (rfl) (rfl) (rfl)
      · exact absurd (nI_le (a := i) (b := i) (by omega) (by omega)) c_12
    · have e : ftC P i 0 i st lw = nI i := by rw [ftC]; exact if_neg h3
      rw [e]
      skip
      refine x_iload_n dX3_faultAsTraders_7 rfl ?_
      refine x_aload_n dX3_faultAsTraders_8 rfl ?_
      refine y_getI fkX3_15 dX3_faultAsTraders_9 (by decide) rfl rfl ?_
      rw [hl]
      refine x_icmp_ge 118 dX3_faultAsTraders_12 (by decide) (fun c_12 => ?_) (fun c_12 => ?_)
      · refine x_iload_n dX3_faultAsTraders_118 rfl ?_
        refine x_iconstv (v := 3) dX3_faultAsTraders_119 (by decide) ?_
        refine x_icmp_ne 128 dX3_faultAsTraders_120 (by decide) (fun c_120 => ?_) (fun c_120 => ?_)
        · refine x_aload_n dX3_faultAsTraders_128 rfl ?_
          refine y_getI fkX3_15 dX3_faultAsTraders_129 (by decide) rfl rfl ?_
          rw [hl]
          exact y_ret dX3_faultAsTraders_132 rfl (rfl) (rfl) (rfl)
        · exact absurd c_120 h3
      · exact absurd (nI_le (a := i) (b := i) (by omega) (by omega)) c_12
  | succ k ih =>
    intro i st lw l4 hi
    have hlt : i < n := by omega
    have hsg := y_signAt hP hM (j := i) (by omega)
    have ech : chF P n i = P i := by unfold chF; exact if_pos hlt
    rw [ech] at hsg
    have hst : ∀ st' lw', stp st lw (P i) = some (st', lw') → ∀ l4, Y 1 mX3_faultAsTraders 7 [some (.ref 73), some (.int st'), some (.int lw'), some (.int (nI (i + 1))), l4] [] M (some (.int (ftC P n (k + 1) i st lw))) M := by
      intro st' lw' h l4
      rw [ftC, h]
      exact ih (i + 1) st' lw' l4 (by omega)
    have hno : stp st lw (P i) = none → ftC P n (k + 1) i st lw = nI i := by
      intro h
      rw [ftC, h]
    skip
    refine x_iload_n dX3_faultAsTraders_7 rfl ?_
    refine x_aload_n dX3_faultAsTraders_8 rfl ?_
    refine y_getI fkX3_15 dX3_faultAsTraders_9 (by decide) rfl rfl ?_
    rw [hl]
    refine x_icmp_ge 118 dX3_faultAsTraders_12 (by decide) (fun c_12 => ?_) (fun c_12 => ?_)
    · exact absurd c_12 (nI_ge hlt (by omega))
    · refine x_aload_n dX3_faultAsTraders_15 rfl ?_
      refine x_iload_n dX3_faultAsTraders_16 rfl ?_
      refine y_callV (as := [_]) okX3_signAt lkX3_19 dX3_faultAsTraders_17 rfl (by decide) rfl (hsg) (by omega) rfl (by simp [Value.category]) (Nat.le_of_ble_eq_true rfl) rfl rfl (cat8 rfl) ?_
      refine x_istore dX3_faultAsTraders_20 (by decide) rfl ?_
      refine x_iload_n dX3_faultAsTraders_22 rfl ?_
      refine x_if_ne 45 dX3_faultAsTraders_23 (by decide) (fun c_23 => ?_) (fun c_23 => ?_)
      · refine x_iload_n dX3_faultAsTraders_45 rfl ?_
        refine x_iconstv (v := 1) dX3_faultAsTraders_46 (by decide) ?_
        refine x_icmp_ne 65 dX3_faultAsTraders_47 (by decide) (fun c_47 => ?_) (fun c_47 => ?_)
        · refine x_iload_n dX3_faultAsTraders_65 rfl ?_
          refine x_iconstv (v := 2) dX3_faultAsTraders_66 (by decide) ?_
          refine x_icmp_lt 93 dX3_faultAsTraders_67 (by decide) (fun c_67 => ?_) (fun c_67 => ?_)
          · refine x_iload_n dX3_faultAsTraders_93 rfl ?_
            refine x_iconstv (v := 3) dX3_faultAsTraders_94 (by decide) ?_
            refine x_icmp_ne 110 dX3_faultAsTraders_95 (by decide) (fun c_95 => ?_) (fun c_95 => ?_)
            · refine x_iload_n dX3_faultAsTraders_110 rfl ?_
              exact y_ret dX3_faultAsTraders_111 rfl (rfl) (by rw [hno (by simp only [stp]; grind)]) (rfl)
            · refine x_iload dX3_faultAsTraders_98 rfl ?_
              refine x_bipushv (v := 44) dX3_faultAsTraders_100 (by decide) ?_
              refine x_icmp_ne 110 dX3_faultAsTraders_102 (by decide) (fun c_102 => ?_) (fun c_102 => ?_)
              · refine x_iload_n dX3_faultAsTraders_110 rfl ?_
                exact y_ret dX3_faultAsTraders_111 rfl (rfl) (by rw [hno (by simp only [stp]; grind)]) (rfl)
              · refine x_iconstv (v := 0) dX3_faultAsTraders_105 (by decide) ?_
                refine x_istore_n dX3_faultAsTraders_106 (by decide) rfl ?_
                refine x_goto 112 dX3_faultAsTraders_107 (by decide) ?_
                refine x_iincv (v := 1) dX3_faultAsTraders_112 rfl (by decide) rfl (by decide) ?_
                refine x_goto 7 dX3_faultAsTraders_115 (by decide) ?_
                rw [nI_1]
                exact hst _ _ (by simp only [stp]; grind) _
          · refine x_iload dX3_faultAsTraders_70 rfl ?_
            refine x_iload_n dX3_faultAsTraders_72 rfl ?_
            refine x_icmp_lt 93 dX3_faultAsTraders_73 (by decide) (fun c_73 => ?_) (fun c_73 => ?_)
            · refine x_iload_n dX3_faultAsTraders_93 rfl ?_
              refine x_iconstv (v := 3) dX3_faultAsTraders_94 (by decide) ?_
              refine x_icmp_ne 110 dX3_faultAsTraders_95 (by decide) (fun c_95 => ?_) (fun c_95 => ?_)
              · refine x_iload_n dX3_faultAsTraders_110 rfl ?_
                exact y_ret dX3_faultAsTraders_111 rfl (rfl) (by rw [hno (by simp only [stp]; grind)]) (rfl)
              · refine x_iload dX3_faultAsTraders_98 rfl ?_
                refine x_bipushv (v := 44) dX3_faultAsTraders_100 (by decide) ?_
                refine x_icmp_ne 110 dX3_faultAsTraders_102 (by decide) (fun c_102 => ?_) (fun c_102 => ?_)
                · refine x_iload_n dX3_faultAsTraders_110 rfl ?_
                  exact y_ret dX3_faultAsTraders_111 rfl (rfl) (by rw [hno (by simp only [stp]; grind)]) (rfl)
                · refine x_iconstv (v := 0) dX3_faultAsTraders_105 (by decide) ?_
                  refine x_istore_n dX3_faultAsTraders_106 (by decide) rfl ?_
                  refine x_goto 112 dX3_faultAsTraders_107 (by decide) ?_
                  refine x_iincv (v := 1) dX3_faultAsTraders_112 rfl (by decide) rfl (by decide) ?_
                  refine x_goto 7 dX3_faultAsTraders_115 (by decide) ?_
                  rw [nI_1]
                  exact hst _ _ (by simp only [stp]; grind) _
            · refine x_iload dX3_faultAsTraders_76 rfl ?_
              refine x_bipushv (v := 53) dX3_faultAsTraders_78 (by decide) ?_
              refine x_icmp_gt 93 dX3_faultAsTraders_80 (by decide) (fun c_80 => ?_) (fun c_80 => ?_)
              · refine x_iload_n dX3_faultAsTraders_93 rfl ?_
                refine x_iconstv (v := 3) dX3_faultAsTraders_94 (by decide) ?_
                refine x_icmp_ne 110 dX3_faultAsTraders_95 (by decide) (fun c_95 => ?_) (fun c_95 => ?_)
                · refine x_iload_n dX3_faultAsTraders_110 rfl ?_
                  exact y_ret dX3_faultAsTraders_111 rfl (rfl) (by rw [hno (by simp only [stp]; grind)]) (rfl)
                · refine x_iload dX3_faultAsTraders_98 rfl ?_
                  refine x_bipushv (v := 44) dX3_faultAsTraders_100 (by decide) ?_
                  refine x_icmp_ne 110 dX3_faultAsTraders_102 (by decide) (fun c_102 => ?_) (fun c_102 => ?_)
                  · refine x_iload_n dX3_faultAsTraders_110 rfl ?_
                    exact y_ret dX3_faultAsTraders_111 rfl (rfl) (by rw [hno (by simp only [stp]; grind)]) (rfl)
                  · refine x_iconstv (v := 0) dX3_faultAsTraders_105 (by decide) ?_
                    refine x_istore_n dX3_faultAsTraders_106 (by decide) rfl ?_
                    refine x_goto 112 dX3_faultAsTraders_107 (by decide) ?_
                    refine x_iincv (v := 1) dX3_faultAsTraders_112 rfl (by decide) rfl (by decide) ?_
                    refine x_goto 7 dX3_faultAsTraders_115 (by decide) ?_
                    rw [nI_1]
                    exact hst _ _ (by simp only [stp]; grind) _
              · refine x_iconstv (v := 3) dX3_faultAsTraders_83 (by decide) ?_
                refine x_istore_n dX3_faultAsTraders_84 (by decide) rfl ?_
                refine x_iload dX3_faultAsTraders_85 rfl ?_
                refine x_iconstv (v := 1) dX3_faultAsTraders_87 (by decide) ?_
                refine x_iadd dX3_faultAsTraders_88 ?_
                refine x_istore_n dX3_faultAsTraders_89 (by decide) rfl ?_
                refine x_goto 112 dX3_faultAsTraders_90 (by decide) ?_
                refine x_iincv (v := 1) dX3_faultAsTraders_112 rfl (by decide) rfl (by decide) ?_
                refine x_goto 7 dX3_faultAsTraders_115 (by decide) ?_
                rw [nI_1]
                exact hst _ _ (by simp only [stp]; grind) _
        · refine x_iload dX3_faultAsTraders_50 rfl ?_
          refine x_bipushv (v := 62) dX3_faultAsTraders_52 (by decide) ?_
          refine x_icmp_ne 65 dX3_faultAsTraders_54 (by decide) (fun c_54 => ?_) (fun c_54 => ?_)
          · refine x_iload_n dX3_faultAsTraders_65 rfl ?_
            refine x_iconstv (v := 2) dX3_faultAsTraders_66 (by decide) ?_
            refine x_icmp_lt 93 dX3_faultAsTraders_67 (by decide) (fun c_67 => ?_) (fun c_67 => ?_)
            · refine x_iload_n dX3_faultAsTraders_93 rfl ?_
              refine x_iconstv (v := 3) dX3_faultAsTraders_94 (by decide) ?_
              refine x_icmp_ne 110 dX3_faultAsTraders_95 (by decide) (fun c_95 => ?_) (fun c_95 => ?_)
              · refine x_iload_n dX3_faultAsTraders_110 rfl ?_
                exact y_ret dX3_faultAsTraders_111 rfl (rfl) (by rw [hno (by simp only [stp]; grind)]) (rfl)
              · refine x_iload dX3_faultAsTraders_98 rfl ?_
                refine x_bipushv (v := 44) dX3_faultAsTraders_100 (by decide) ?_
                refine x_icmp_ne 110 dX3_faultAsTraders_102 (by decide) (fun c_102 => ?_) (fun c_102 => ?_)
                · refine x_iload_n dX3_faultAsTraders_110 rfl ?_
                  exact y_ret dX3_faultAsTraders_111 rfl (rfl) (by rw [hno (by simp only [stp]; grind)]) (rfl)
                · refine x_iconstv (v := 0) dX3_faultAsTraders_105 (by decide) ?_
                  refine x_istore_n dX3_faultAsTraders_106 (by decide) rfl ?_
                  refine x_goto 112 dX3_faultAsTraders_107 (by decide) ?_
                  refine x_iincv (v := 1) dX3_faultAsTraders_112 rfl (by decide) rfl (by decide) ?_
                  refine x_goto 7 dX3_faultAsTraders_115 (by decide) ?_
                  rw [nI_1]
                  exact hst _ _ (by simp only [stp]; grind) _
            · refine x_iload dX3_faultAsTraders_70 rfl ?_
              refine x_iload_n dX3_faultAsTraders_72 rfl ?_
              refine x_icmp_lt 93 dX3_faultAsTraders_73 (by decide) (fun c_73 => ?_) (fun c_73 => ?_)
              · refine x_iload_n dX3_faultAsTraders_93 rfl ?_
                refine x_iconstv (v := 3) dX3_faultAsTraders_94 (by decide) ?_
                refine x_icmp_ne 110 dX3_faultAsTraders_95 (by decide) (fun c_95 => ?_) (fun c_95 => ?_)
                · refine x_iload_n dX3_faultAsTraders_110 rfl ?_
                  exact y_ret dX3_faultAsTraders_111 rfl (rfl) (by rw [hno (by simp only [stp]; grind)]) (rfl)
                · refine x_iload dX3_faultAsTraders_98 rfl ?_
                  refine x_bipushv (v := 44) dX3_faultAsTraders_100 (by decide) ?_
                  refine x_icmp_ne 110 dX3_faultAsTraders_102 (by decide) (fun c_102 => ?_) (fun c_102 => ?_)
                  · refine x_iload_n dX3_faultAsTraders_110 rfl ?_
                    exact y_ret dX3_faultAsTraders_111 rfl (rfl) (by rw [hno (by simp only [stp]; grind)]) (rfl)
                  · refine x_iconstv (v := 0) dX3_faultAsTraders_105 (by decide) ?_
                    refine x_istore_n dX3_faultAsTraders_106 (by decide) rfl ?_
                    refine x_goto 112 dX3_faultAsTraders_107 (by decide) ?_
                    refine x_iincv (v := 1) dX3_faultAsTraders_112 rfl (by decide) rfl (by decide) ?_
                    refine x_goto 7 dX3_faultAsTraders_115 (by decide) ?_
                    rw [nI_1]
                    exact hst _ _ (by simp only [stp]; grind) _
              · refine x_iload dX3_faultAsTraders_76 rfl ?_
                refine x_bipushv (v := 53) dX3_faultAsTraders_78 (by decide) ?_
                refine x_icmp_gt 93 dX3_faultAsTraders_80 (by decide) (fun c_80 => ?_) (fun c_80 => ?_)
                · refine x_iload_n dX3_faultAsTraders_93 rfl ?_
                  refine x_iconstv (v := 3) dX3_faultAsTraders_94 (by decide) ?_
                  refine x_icmp_ne 110 dX3_faultAsTraders_95 (by decide) (fun c_95 => ?_) (fun c_95 => ?_)
                  · refine x_iload_n dX3_faultAsTraders_110 rfl ?_
                    exact y_ret dX3_faultAsTraders_111 rfl (rfl) (by rw [hno (by simp only [stp]; grind)]) (rfl)
                  · refine x_iload dX3_faultAsTraders_98 rfl ?_
                    refine x_bipushv (v := 44) dX3_faultAsTraders_100 (by decide) ?_
                    refine x_icmp_ne 110 dX3_faultAsTraders_102 (by decide) (fun c_102 => ?_) (fun c_102 => ?_)
                    · refine x_iload_n dX3_faultAsTraders_110 rfl ?_
                      exact y_ret dX3_faultAsTraders_111 rfl (rfl) (by rw [hno (by simp only [stp]; grind)]) (rfl)
                    · refine x_iconstv (v := 0) dX3_faultAsTraders_105 (by decide) ?_
                      refine x_istore_n dX3_faultAsTraders_106 (by decide) rfl ?_
                      refine x_goto 112 dX3_faultAsTraders_107 (by decide) ?_
                      refine x_iincv (v := 1) dX3_faultAsTraders_112 rfl (by decide) rfl (by decide) ?_
                      refine x_goto 7 dX3_faultAsTraders_115 (by decide) ?_
                      rw [nI_1]
                      exact hst _ _ (by simp only [stp]; grind) _
                · refine x_iconstv (v := 3) dX3_faultAsTraders_83 (by decide) ?_
                  refine x_istore_n dX3_faultAsTraders_84 (by decide) rfl ?_
                  refine x_iload dX3_faultAsTraders_85 rfl ?_
                  refine x_iconstv (v := 1) dX3_faultAsTraders_87 (by decide) ?_
                  refine x_iadd dX3_faultAsTraders_88 ?_
                  refine x_istore_n dX3_faultAsTraders_89 (by decide) rfl ?_
                  refine x_goto 112 dX3_faultAsTraders_90 (by decide) ?_
                  refine x_iincv (v := 1) dX3_faultAsTraders_112 rfl (by decide) rfl (by decide) ?_
                  refine x_goto 7 dX3_faultAsTraders_115 (by decide) ?_
                  rw [nI_1]
                  exact hst _ _ (by simp only [stp]; grind) _
          · refine x_iconstv (v := 2) dX3_faultAsTraders_57 (by decide) ?_
            refine x_istore_n dX3_faultAsTraders_58 (by decide) rfl ?_
            refine x_bipushv (v := 48) dX3_faultAsTraders_59 (by decide) ?_
            refine x_istore_n dX3_faultAsTraders_61 (by decide) rfl ?_
            refine x_goto 112 dX3_faultAsTraders_62 (by decide) ?_
            refine x_iincv (v := 1) dX3_faultAsTraders_112 rfl (by decide) rfl (by decide) ?_
            refine x_goto 7 dX3_faultAsTraders_115 (by decide) ?_
            rw [nI_1]
            exact hst _ _ (by simp only [stp]; grind) _
      · refine x_iload dX3_faultAsTraders_26 rfl ?_
        refine x_bipushv (v := 48) dX3_faultAsTraders_28 (by decide) ?_
        refine x_icmp_lt 45 dX3_faultAsTraders_30 (by decide) (fun c_30 => ?_) (fun c_30 => ?_)
        · refine x_iload_n dX3_faultAsTraders_45 rfl ?_
          refine x_iconstv (v := 1) dX3_faultAsTraders_46 (by decide) ?_
          refine x_icmp_ne 65 dX3_faultAsTraders_47 (by decide) (fun c_47 => ?_) (fun c_47 => ?_)
          · refine x_iload_n dX3_faultAsTraders_65 rfl ?_
            refine x_iconstv (v := 2) dX3_faultAsTraders_66 (by decide) ?_
            refine x_icmp_lt 93 dX3_faultAsTraders_67 (by decide) (fun c_67 => ?_) (fun c_67 => ?_)
            · refine x_iload_n dX3_faultAsTraders_93 rfl ?_
              refine x_iconstv (v := 3) dX3_faultAsTraders_94 (by decide) ?_
              refine x_icmp_ne 110 dX3_faultAsTraders_95 (by decide) (fun c_95 => ?_) (fun c_95 => ?_)
              · refine x_iload_n dX3_faultAsTraders_110 rfl ?_
                exact y_ret dX3_faultAsTraders_111 rfl (rfl) (by rw [hno (by simp only [stp]; grind)]) (rfl)
              · refine x_iload dX3_faultAsTraders_98 rfl ?_
                refine x_bipushv (v := 44) dX3_faultAsTraders_100 (by decide) ?_
                refine x_icmp_ne 110 dX3_faultAsTraders_102 (by decide) (fun c_102 => ?_) (fun c_102 => ?_)
                · refine x_iload_n dX3_faultAsTraders_110 rfl ?_
                  exact y_ret dX3_faultAsTraders_111 rfl (rfl) (by rw [hno (by simp only [stp]; grind)]) (rfl)
                · refine x_iconstv (v := 0) dX3_faultAsTraders_105 (by decide) ?_
                  refine x_istore_n dX3_faultAsTraders_106 (by decide) rfl ?_
                  refine x_goto 112 dX3_faultAsTraders_107 (by decide) ?_
                  refine x_iincv (v := 1) dX3_faultAsTraders_112 rfl (by decide) rfl (by decide) ?_
                  refine x_goto 7 dX3_faultAsTraders_115 (by decide) ?_
                  rw [nI_1]
                  exact hst _ _ (by simp only [stp]; grind) _
            · refine x_iload dX3_faultAsTraders_70 rfl ?_
              refine x_iload_n dX3_faultAsTraders_72 rfl ?_
              refine x_icmp_lt 93 dX3_faultAsTraders_73 (by decide) (fun c_73 => ?_) (fun c_73 => ?_)
              · refine x_iload_n dX3_faultAsTraders_93 rfl ?_
                refine x_iconstv (v := 3) dX3_faultAsTraders_94 (by decide) ?_
                refine x_icmp_ne 110 dX3_faultAsTraders_95 (by decide) (fun c_95 => ?_) (fun c_95 => ?_)
                · refine x_iload_n dX3_faultAsTraders_110 rfl ?_
                  exact y_ret dX3_faultAsTraders_111 rfl (rfl) (by rw [hno (by simp only [stp]; grind)]) (rfl)
                · refine x_iload dX3_faultAsTraders_98 rfl ?_
                  refine x_bipushv (v := 44) dX3_faultAsTraders_100 (by decide) ?_
                  refine x_icmp_ne 110 dX3_faultAsTraders_102 (by decide) (fun c_102 => ?_) (fun c_102 => ?_)
                  · refine x_iload_n dX3_faultAsTraders_110 rfl ?_
                    exact y_ret dX3_faultAsTraders_111 rfl (rfl) (by rw [hno (by simp only [stp]; grind)]) (rfl)
                  · refine x_iconstv (v := 0) dX3_faultAsTraders_105 (by decide) ?_
                    refine x_istore_n dX3_faultAsTraders_106 (by decide) rfl ?_
                    refine x_goto 112 dX3_faultAsTraders_107 (by decide) ?_
                    refine x_iincv (v := 1) dX3_faultAsTraders_112 rfl (by decide) rfl (by decide) ?_
                    refine x_goto 7 dX3_faultAsTraders_115 (by decide) ?_
                    rw [nI_1]
                    exact hst _ _ (by simp only [stp]; grind) _
              · refine x_iload dX3_faultAsTraders_76 rfl ?_
                refine x_bipushv (v := 53) dX3_faultAsTraders_78 (by decide) ?_
                refine x_icmp_gt 93 dX3_faultAsTraders_80 (by decide) (fun c_80 => ?_) (fun c_80 => ?_)
                · refine x_iload_n dX3_faultAsTraders_93 rfl ?_
                  refine x_iconstv (v := 3) dX3_faultAsTraders_94 (by decide) ?_
                  refine x_icmp_ne 110 dX3_faultAsTraders_95 (by decide) (fun c_95 => ?_) (fun c_95 => ?_)
                  · refine x_iload_n dX3_faultAsTraders_110 rfl ?_
                    exact y_ret dX3_faultAsTraders_111 rfl (rfl) (by rw [hno (by simp only [stp]; grind)]) (rfl)
                  · refine x_iload dX3_faultAsTraders_98 rfl ?_
                    refine x_bipushv (v := 44) dX3_faultAsTraders_100 (by decide) ?_
                    refine x_icmp_ne 110 dX3_faultAsTraders_102 (by decide) (fun c_102 => ?_) (fun c_102 => ?_)
                    · refine x_iload_n dX3_faultAsTraders_110 rfl ?_
                      exact y_ret dX3_faultAsTraders_111 rfl (rfl) (by rw [hno (by simp only [stp]; grind)]) (rfl)
                    · refine x_iconstv (v := 0) dX3_faultAsTraders_105 (by decide) ?_
                      refine x_istore_n dX3_faultAsTraders_106 (by decide) rfl ?_
                      refine x_goto 112 dX3_faultAsTraders_107 (by decide) ?_
                      refine x_iincv (v := 1) dX3_faultAsTraders_112 rfl (by decide) rfl (by decide) ?_
                      refine x_goto 7 dX3_faultAsTraders_115 (by decide) ?_
                      rw [nI_1]
                      exact hst _ _ (by simp only [stp]; grind) _
                · refine x_iconstv (v := 3) dX3_faultAsTraders_83 (by decide) ?_
                  refine x_istore_n dX3_faultAsTraders_84 (by decide) rfl ?_
                  refine x_iload dX3_faultAsTraders_85 rfl ?_
                  refine x_iconstv (v := 1) dX3_faultAsTraders_87 (by decide) ?_
                  refine x_iadd dX3_faultAsTraders_88 ?_
                  refine x_istore_n dX3_faultAsTraders_89 (by decide) rfl ?_
                  refine x_goto 112 dX3_faultAsTraders_90 (by decide) ?_
                  refine x_iincv (v := 1) dX3_faultAsTraders_112 rfl (by decide) rfl (by decide) ?_
                  refine x_goto 7 dX3_faultAsTraders_115 (by decide) ?_
                  rw [nI_1]
                  exact hst _ _ (by simp only [stp]; grind) _
          · refine x_iload dX3_faultAsTraders_50 rfl ?_
            refine x_bipushv (v := 62) dX3_faultAsTraders_52 (by decide) ?_
            refine x_icmp_ne 65 dX3_faultAsTraders_54 (by decide) (fun c_54 => ?_) (fun c_54 => ?_)
            · refine x_iload_n dX3_faultAsTraders_65 rfl ?_
              refine x_iconstv (v := 2) dX3_faultAsTraders_66 (by decide) ?_
              refine x_icmp_lt 93 dX3_faultAsTraders_67 (by decide) (fun c_67 => ?_) (fun c_67 => ?_)
              · refine x_iload_n dX3_faultAsTraders_93 rfl ?_
                refine x_iconstv (v := 3) dX3_faultAsTraders_94 (by decide) ?_
                refine x_icmp_ne 110 dX3_faultAsTraders_95 (by decide) (fun c_95 => ?_) (fun c_95 => ?_)
                · refine x_iload_n dX3_faultAsTraders_110 rfl ?_
                  exact y_ret dX3_faultAsTraders_111 rfl (rfl) (by rw [hno (by simp only [stp]; grind)]) (rfl)
                · refine x_iload dX3_faultAsTraders_98 rfl ?_
                  refine x_bipushv (v := 44) dX3_faultAsTraders_100 (by decide) ?_
                  refine x_icmp_ne 110 dX3_faultAsTraders_102 (by decide) (fun c_102 => ?_) (fun c_102 => ?_)
                  · refine x_iload_n dX3_faultAsTraders_110 rfl ?_
                    exact y_ret dX3_faultAsTraders_111 rfl (rfl) (by rw [hno (by simp only [stp]; grind)]) (rfl)
                  · refine x_iconstv (v := 0) dX3_faultAsTraders_105 (by decide) ?_
                    refine x_istore_n dX3_faultAsTraders_106 (by decide) rfl ?_
                    refine x_goto 112 dX3_faultAsTraders_107 (by decide) ?_
                    refine x_iincv (v := 1) dX3_faultAsTraders_112 rfl (by decide) rfl (by decide) ?_
                    refine x_goto 7 dX3_faultAsTraders_115 (by decide) ?_
                    rw [nI_1]
                    exact hst _ _ (by simp only [stp]; grind) _
              · refine x_iload dX3_faultAsTraders_70 rfl ?_
                refine x_iload_n dX3_faultAsTraders_72 rfl ?_
                refine x_icmp_lt 93 dX3_faultAsTraders_73 (by decide) (fun c_73 => ?_) (fun c_73 => ?_)
                · refine x_iload_n dX3_faultAsTraders_93 rfl ?_
                  refine x_iconstv (v := 3) dX3_faultAsTraders_94 (by decide) ?_
                  refine x_icmp_ne 110 dX3_faultAsTraders_95 (by decide) (fun c_95 => ?_) (fun c_95 => ?_)
                  · refine x_iload_n dX3_faultAsTraders_110 rfl ?_
                    exact y_ret dX3_faultAsTraders_111 rfl (rfl) (by rw [hno (by simp only [stp]; grind)]) (rfl)
                  · refine x_iload dX3_faultAsTraders_98 rfl ?_
                    refine x_bipushv (v := 44) dX3_faultAsTraders_100 (by decide) ?_
                    refine x_icmp_ne 110 dX3_faultAsTraders_102 (by decide) (fun c_102 => ?_) (fun c_102 => ?_)
                    · refine x_iload_n dX3_faultAsTraders_110 rfl ?_
                      exact y_ret dX3_faultAsTraders_111 rfl (rfl) (by rw [hno (by simp only [stp]; grind)]) (rfl)
                    · refine x_iconstv (v := 0) dX3_faultAsTraders_105 (by decide) ?_
                      refine x_istore_n dX3_faultAsTraders_106 (by decide) rfl ?_
                      refine x_goto 112 dX3_faultAsTraders_107 (by decide) ?_
                      refine x_iincv (v := 1) dX3_faultAsTraders_112 rfl (by decide) rfl (by decide) ?_
                      refine x_goto 7 dX3_faultAsTraders_115 (by decide) ?_
                      rw [nI_1]
                      exact hst _ _ (by simp only [stp]; grind) _
                · refine x_iload dX3_faultAsTraders_76 rfl ?_
                  refine x_bipushv (v := 53) dX3_faultAsTraders_78 (by decide) ?_
                  refine x_icmp_gt 93 dX3_faultAsTraders_80 (by decide) (fun c_80 => ?_) (fun c_80 => ?_)
                  · refine x_iload_n dX3_faultAsTraders_93 rfl ?_
                    refine x_iconstv (v := 3) dX3_faultAsTraders_94 (by decide) ?_
                    refine x_icmp_ne 110 dX3_faultAsTraders_95 (by decide) (fun c_95 => ?_) (fun c_95 => ?_)
                    · refine x_iload_n dX3_faultAsTraders_110 rfl ?_
                      exact y_ret dX3_faultAsTraders_111 rfl (rfl) (by rw [hno (by simp only [stp]; grind)]) (rfl)
                    · refine x_iload dX3_faultAsTraders_98 rfl ?_
                      refine x_bipushv (v := 44) dX3_faultAsTraders_100 (by decide) ?_
                      refine x_icmp_ne 110 dX3_faultAsTraders_102 (by decide) (fun c_102 => ?_) (fun c_102 => ?_)
                      · refine x_iload_n dX3_faultAsTraders_110 rfl ?_
                        exact y_ret dX3_faultAsTraders_111 rfl (rfl) (by rw [hno (by simp only [stp]; grind)]) (rfl)
                      · refine x_iconstv (v := 0) dX3_faultAsTraders_105 (by decide) ?_
                        refine x_istore_n dX3_faultAsTraders_106 (by decide) rfl ?_
                        refine x_goto 112 dX3_faultAsTraders_107 (by decide) ?_
                        refine x_iincv (v := 1) dX3_faultAsTraders_112 rfl (by decide) rfl (by decide) ?_
                        refine x_goto 7 dX3_faultAsTraders_115 (by decide) ?_
                        rw [nI_1]
                        exact hst _ _ (by simp only [stp]; grind) _
                  · refine x_iconstv (v := 3) dX3_faultAsTraders_83 (by decide) ?_
                    refine x_istore_n dX3_faultAsTraders_84 (by decide) rfl ?_
                    refine x_iload dX3_faultAsTraders_85 rfl ?_
                    refine x_iconstv (v := 1) dX3_faultAsTraders_87 (by decide) ?_
                    refine x_iadd dX3_faultAsTraders_88 ?_
                    refine x_istore_n dX3_faultAsTraders_89 (by decide) rfl ?_
                    refine x_goto 112 dX3_faultAsTraders_90 (by decide) ?_
                    refine x_iincv (v := 1) dX3_faultAsTraders_112 rfl (by decide) rfl (by decide) ?_
                    refine x_goto 7 dX3_faultAsTraders_115 (by decide) ?_
                    rw [nI_1]
                    exact hst _ _ (by simp only [stp]; grind) _
            · refine x_iconstv (v := 2) dX3_faultAsTraders_57 (by decide) ?_
              refine x_istore_n dX3_faultAsTraders_58 (by decide) rfl ?_
              refine x_bipushv (v := 48) dX3_faultAsTraders_59 (by decide) ?_
              refine x_istore_n dX3_faultAsTraders_61 (by decide) rfl ?_
              refine x_goto 112 dX3_faultAsTraders_62 (by decide) ?_
              refine x_iincv (v := 1) dX3_faultAsTraders_112 rfl (by decide) rfl (by decide) ?_
              refine x_goto 7 dX3_faultAsTraders_115 (by decide) ?_
              rw [nI_1]
              exact hst _ _ (by simp only [stp]; grind) _
        · refine x_iload dX3_faultAsTraders_33 rfl ?_
          refine x_bipushv (v := 53) dX3_faultAsTraders_35 (by decide) ?_
          refine x_icmp_gt 45 dX3_faultAsTraders_37 (by decide) (fun c_37 => ?_) (fun c_37 => ?_)
          · refine x_iload_n dX3_faultAsTraders_45 rfl ?_
            refine x_iconstv (v := 1) dX3_faultAsTraders_46 (by decide) ?_
            refine x_icmp_ne 65 dX3_faultAsTraders_47 (by decide) (fun c_47 => ?_) (fun c_47 => ?_)
            · refine x_iload_n dX3_faultAsTraders_65 rfl ?_
              refine x_iconstv (v := 2) dX3_faultAsTraders_66 (by decide) ?_
              refine x_icmp_lt 93 dX3_faultAsTraders_67 (by decide) (fun c_67 => ?_) (fun c_67 => ?_)
              · refine x_iload_n dX3_faultAsTraders_93 rfl ?_
                refine x_iconstv (v := 3) dX3_faultAsTraders_94 (by decide) ?_
                refine x_icmp_ne 110 dX3_faultAsTraders_95 (by decide) (fun c_95 => ?_) (fun c_95 => ?_)
                · refine x_iload_n dX3_faultAsTraders_110 rfl ?_
                  exact y_ret dX3_faultAsTraders_111 rfl (rfl) (by rw [hno (by simp only [stp]; grind)]) (rfl)
                · refine x_iload dX3_faultAsTraders_98 rfl ?_
                  refine x_bipushv (v := 44) dX3_faultAsTraders_100 (by decide) ?_
                  refine x_icmp_ne 110 dX3_faultAsTraders_102 (by decide) (fun c_102 => ?_) (fun c_102 => ?_)
                  · refine x_iload_n dX3_faultAsTraders_110 rfl ?_
                    exact y_ret dX3_faultAsTraders_111 rfl (rfl) (by rw [hno (by simp only [stp]; grind)]) (rfl)
                  · refine x_iconstv (v := 0) dX3_faultAsTraders_105 (by decide) ?_
                    refine x_istore_n dX3_faultAsTraders_106 (by decide) rfl ?_
                    refine x_goto 112 dX3_faultAsTraders_107 (by decide) ?_
                    refine x_iincv (v := 1) dX3_faultAsTraders_112 rfl (by decide) rfl (by decide) ?_
                    refine x_goto 7 dX3_faultAsTraders_115 (by decide) ?_
                    rw [nI_1]
                    exact hst _ _ (by simp only [stp]; grind) _
              · refine x_iload dX3_faultAsTraders_70 rfl ?_
                refine x_iload_n dX3_faultAsTraders_72 rfl ?_
                refine x_icmp_lt 93 dX3_faultAsTraders_73 (by decide) (fun c_73 => ?_) (fun c_73 => ?_)
                · refine x_iload_n dX3_faultAsTraders_93 rfl ?_
                  refine x_iconstv (v := 3) dX3_faultAsTraders_94 (by decide) ?_
                  refine x_icmp_ne 110 dX3_faultAsTraders_95 (by decide) (fun c_95 => ?_) (fun c_95 => ?_)
                  · refine x_iload_n dX3_faultAsTraders_110 rfl ?_
                    exact y_ret dX3_faultAsTraders_111 rfl (rfl) (by rw [hno (by simp only [stp]; grind)]) (rfl)
                  · refine x_iload dX3_faultAsTraders_98 rfl ?_
                    refine x_bipushv (v := 44) dX3_faultAsTraders_100 (by decide) ?_
                    refine x_icmp_ne 110 dX3_faultAsTraders_102 (by decide) (fun c_102 => ?_) (fun c_102 => ?_)
                    · refine x_iload_n dX3_faultAsTraders_110 rfl ?_
                      exact y_ret dX3_faultAsTraders_111 rfl (rfl) (by rw [hno (by simp only [stp]; grind)]) (rfl)
                    · refine x_iconstv (v := 0) dX3_faultAsTraders_105 (by decide) ?_
                      refine x_istore_n dX3_faultAsTraders_106 (by decide) rfl ?_
                      refine x_goto 112 dX3_faultAsTraders_107 (by decide) ?_
                      refine x_iincv (v := 1) dX3_faultAsTraders_112 rfl (by decide) rfl (by decide) ?_
                      refine x_goto 7 dX3_faultAsTraders_115 (by decide) ?_
                      rw [nI_1]
                      exact hst _ _ (by simp only [stp]; grind) _
                · refine x_iload dX3_faultAsTraders_76 rfl ?_
                  refine x_bipushv (v := 53) dX3_faultAsTraders_78 (by decide) ?_
                  refine x_icmp_gt 93 dX3_faultAsTraders_80 (by decide) (fun c_80 => ?_) (fun c_80 => ?_)
                  · refine x_iload_n dX3_faultAsTraders_93 rfl ?_
                    refine x_iconstv (v := 3) dX3_faultAsTraders_94 (by decide) ?_
                    refine x_icmp_ne 110 dX3_faultAsTraders_95 (by decide) (fun c_95 => ?_) (fun c_95 => ?_)
                    · refine x_iload_n dX3_faultAsTraders_110 rfl ?_
                      exact y_ret dX3_faultAsTraders_111 rfl (rfl) (by rw [hno (by simp only [stp]; grind)]) (rfl)
                    · refine x_iload dX3_faultAsTraders_98 rfl ?_
                      refine x_bipushv (v := 44) dX3_faultAsTraders_100 (by decide) ?_
                      refine x_icmp_ne 110 dX3_faultAsTraders_102 (by decide) (fun c_102 => ?_) (fun c_102 => ?_)
                      · refine x_iload_n dX3_faultAsTraders_110 rfl ?_
                        exact y_ret dX3_faultAsTraders_111 rfl (rfl) (by rw [hno (by simp only [stp]; grind)]) (rfl)
                      · refine x_iconstv (v := 0) dX3_faultAsTraders_105 (by decide) ?_
                        refine x_istore_n dX3_faultAsTraders_106 (by decide) rfl ?_
                        refine x_goto 112 dX3_faultAsTraders_107 (by decide) ?_
                        refine x_iincv (v := 1) dX3_faultAsTraders_112 rfl (by decide) rfl (by decide) ?_
                        refine x_goto 7 dX3_faultAsTraders_115 (by decide) ?_
                        rw [nI_1]
                        exact hst _ _ (by simp only [stp]; grind) _
                  · refine x_iconstv (v := 3) dX3_faultAsTraders_83 (by decide) ?_
                    refine x_istore_n dX3_faultAsTraders_84 (by decide) rfl ?_
                    refine x_iload dX3_faultAsTraders_85 rfl ?_
                    refine x_iconstv (v := 1) dX3_faultAsTraders_87 (by decide) ?_
                    refine x_iadd dX3_faultAsTraders_88 ?_
                    refine x_istore_n dX3_faultAsTraders_89 (by decide) rfl ?_
                    refine x_goto 112 dX3_faultAsTraders_90 (by decide) ?_
                    refine x_iincv (v := 1) dX3_faultAsTraders_112 rfl (by decide) rfl (by decide) ?_
                    refine x_goto 7 dX3_faultAsTraders_115 (by decide) ?_
                    rw [nI_1]
                    exact hst _ _ (by simp only [stp]; grind) _
            · refine x_iload dX3_faultAsTraders_50 rfl ?_
              refine x_bipushv (v := 62) dX3_faultAsTraders_52 (by decide) ?_
              refine x_icmp_ne 65 dX3_faultAsTraders_54 (by decide) (fun c_54 => ?_) (fun c_54 => ?_)
              · refine x_iload_n dX3_faultAsTraders_65 rfl ?_
                refine x_iconstv (v := 2) dX3_faultAsTraders_66 (by decide) ?_
                refine x_icmp_lt 93 dX3_faultAsTraders_67 (by decide) (fun c_67 => ?_) (fun c_67 => ?_)
                · refine x_iload_n dX3_faultAsTraders_93 rfl ?_
                  refine x_iconstv (v := 3) dX3_faultAsTraders_94 (by decide) ?_
                  refine x_icmp_ne 110 dX3_faultAsTraders_95 (by decide) (fun c_95 => ?_) (fun c_95 => ?_)
                  · refine x_iload_n dX3_faultAsTraders_110 rfl ?_
                    exact y_ret dX3_faultAsTraders_111 rfl (rfl) (by rw [hno (by simp only [stp]; grind)]) (rfl)
                  · refine x_iload dX3_faultAsTraders_98 rfl ?_
                    refine x_bipushv (v := 44) dX3_faultAsTraders_100 (by decide) ?_
                    refine x_icmp_ne 110 dX3_faultAsTraders_102 (by decide) (fun c_102 => ?_) (fun c_102 => ?_)
                    · refine x_iload_n dX3_faultAsTraders_110 rfl ?_
                      exact y_ret dX3_faultAsTraders_111 rfl (rfl) (by rw [hno (by simp only [stp]; grind)]) (rfl)
                    · refine x_iconstv (v := 0) dX3_faultAsTraders_105 (by decide) ?_
                      refine x_istore_n dX3_faultAsTraders_106 (by decide) rfl ?_
                      refine x_goto 112 dX3_faultAsTraders_107 (by decide) ?_
                      refine x_iincv (v := 1) dX3_faultAsTraders_112 rfl (by decide) rfl (by decide) ?_
                      refine x_goto 7 dX3_faultAsTraders_115 (by decide) ?_
                      rw [nI_1]
                      exact hst _ _ (by simp only [stp]; grind) _
                · refine x_iload dX3_faultAsTraders_70 rfl ?_
                  refine x_iload_n dX3_faultAsTraders_72 rfl ?_
                  refine x_icmp_lt 93 dX3_faultAsTraders_73 (by decide) (fun c_73 => ?_) (fun c_73 => ?_)
                  · refine x_iload_n dX3_faultAsTraders_93 rfl ?_
                    refine x_iconstv (v := 3) dX3_faultAsTraders_94 (by decide) ?_
                    refine x_icmp_ne 110 dX3_faultAsTraders_95 (by decide) (fun c_95 => ?_) (fun c_95 => ?_)
                    · refine x_iload_n dX3_faultAsTraders_110 rfl ?_
                      exact y_ret dX3_faultAsTraders_111 rfl (rfl) (by rw [hno (by simp only [stp]; grind)]) (rfl)
                    · refine x_iload dX3_faultAsTraders_98 rfl ?_
                      refine x_bipushv (v := 44) dX3_faultAsTraders_100 (by decide) ?_
                      refine x_icmp_ne 110 dX3_faultAsTraders_102 (by decide) (fun c_102 => ?_) (fun c_102 => ?_)
                      · refine x_iload_n dX3_faultAsTraders_110 rfl ?_
                        exact y_ret dX3_faultAsTraders_111 rfl (rfl) (by rw [hno (by simp only [stp]; grind)]) (rfl)
                      · refine x_iconstv (v := 0) dX3_faultAsTraders_105 (by decide) ?_
                        refine x_istore_n dX3_faultAsTraders_106 (by decide) rfl ?_
                        refine x_goto 112 dX3_faultAsTraders_107 (by decide) ?_
                        refine x_iincv (v := 1) dX3_faultAsTraders_112 rfl (by decide) rfl (by decide) ?_
                        refine x_goto 7 dX3_faultAsTraders_115 (by decide) ?_
                        rw [nI_1]
                        exact hst _ _ (by simp only [stp]; grind) _
                  · refine x_iload dX3_faultAsTraders_76 rfl ?_
                    refine x_bipushv (v := 53) dX3_faultAsTraders_78 (by decide) ?_
                    refine x_icmp_gt 93 dX3_faultAsTraders_80 (by decide) (fun c_80 => ?_) (fun c_80 => ?_)
                    · refine x_iload_n dX3_faultAsTraders_93 rfl ?_
                      refine x_iconstv (v := 3) dX3_faultAsTraders_94 (by decide) ?_
                      refine x_icmp_ne 110 dX3_faultAsTraders_95 (by decide) (fun c_95 => ?_) (fun c_95 => ?_)
                      · refine x_iload_n dX3_faultAsTraders_110 rfl ?_
                        exact y_ret dX3_faultAsTraders_111 rfl (rfl) (by rw [hno (by simp only [stp]; grind)]) (rfl)
                      · refine x_iload dX3_faultAsTraders_98 rfl ?_
                        refine x_bipushv (v := 44) dX3_faultAsTraders_100 (by decide) ?_
                        refine x_icmp_ne 110 dX3_faultAsTraders_102 (by decide) (fun c_102 => ?_) (fun c_102 => ?_)
                        · refine x_iload_n dX3_faultAsTraders_110 rfl ?_
                          exact y_ret dX3_faultAsTraders_111 rfl (rfl) (by rw [hno (by simp only [stp]; grind)]) (rfl)
                        · refine x_iconstv (v := 0) dX3_faultAsTraders_105 (by decide) ?_
                          refine x_istore_n dX3_faultAsTraders_106 (by decide) rfl ?_
                          refine x_goto 112 dX3_faultAsTraders_107 (by decide) ?_
                          refine x_iincv (v := 1) dX3_faultAsTraders_112 rfl (by decide) rfl (by decide) ?_
                          refine x_goto 7 dX3_faultAsTraders_115 (by decide) ?_
                          rw [nI_1]
                          exact hst _ _ (by simp only [stp]; grind) _
                    · refine x_iconstv (v := 3) dX3_faultAsTraders_83 (by decide) ?_
                      refine x_istore_n dX3_faultAsTraders_84 (by decide) rfl ?_
                      refine x_iload dX3_faultAsTraders_85 rfl ?_
                      refine x_iconstv (v := 1) dX3_faultAsTraders_87 (by decide) ?_
                      refine x_iadd dX3_faultAsTraders_88 ?_
                      refine x_istore_n dX3_faultAsTraders_89 (by decide) rfl ?_
                      refine x_goto 112 dX3_faultAsTraders_90 (by decide) ?_
                      refine x_iincv (v := 1) dX3_faultAsTraders_112 rfl (by decide) rfl (by decide) ?_
                      refine x_goto 7 dX3_faultAsTraders_115 (by decide) ?_
                      rw [nI_1]
                      exact hst _ _ (by simp only [stp]; grind) _
              · refine x_iconstv (v := 2) dX3_faultAsTraders_57 (by decide) ?_
                refine x_istore_n dX3_faultAsTraders_58 (by decide) rfl ?_
                refine x_bipushv (v := 48) dX3_faultAsTraders_59 (by decide) ?_
                refine x_istore_n dX3_faultAsTraders_61 (by decide) rfl ?_
                refine x_goto 112 dX3_faultAsTraders_62 (by decide) ?_
                refine x_iincv (v := 1) dX3_faultAsTraders_112 rfl (by decide) rfl (by decide) ?_
                refine x_goto 7 dX3_faultAsTraders_115 (by decide) ?_
                rw [nI_1]
                exact hst _ _ (by simp only [stp]; grind) _
          · refine x_iconstv (v := 1) dX3_faultAsTraders_40 (by decide) ?_
            refine x_istore_n dX3_faultAsTraders_41 (by decide) rfl ?_
            refine x_goto 112 dX3_faultAsTraders_42 (by decide) ?_
            refine x_iincv (v := 1) dX3_faultAsTraders_112 rfl (by decide) rfl (by decide) ?_
            refine x_goto 7 dX3_faultAsTraders_115 (by decide) ?_
            rw [nI_1]
            exact hst _ _ (by simp only [stp]; grind) _
theorem y_ft {M : Mem} {P : Row} {n : Nat} (hP : Pad P n) (hM : PadC M P n) : Y 1 mX3_faultAsTraders 0 (lent 5 [.ref 73]) [] M (some (.int (ftC P n n 0 0 48))) M := by
  have h := y_ft_loop hP hM n 0 0 48 none (by omega)
  refine x_iconstv (v := 0) dX3_faultAsTraders_0 (by decide) ?_
  refine x_istore_n dX3_faultAsTraders_1 (by decide) rfl ?_
  refine x_bipushv (v := 48) dX3_faultAsTraders_2 (by decide) ?_
  refine x_istore_n dX3_faultAsTraders_4 (by decide) rfl ?_
  refine x_iconstv (v := 0) dX3_faultAsTraders_5 (by decide) ?_
  refine x_istore_n dX3_faultAsTraders_6 (by decide) rfl ?_
  exact h
theorem y_fd_loop {M : Mem} {P : Row} {n : Nat} (hP : Pad P n) (hM : PadC M P n) : ∀ (k i : Nat) (dd : Int32) (l3 : Option Value), i + k = n → (dd = 1 → 0 < i) → (dd = 0 ∨ dd = 1 ∨ dd = 2) → Y 1 mX3_faultAsDays 4 [some (.ref 73), some (.int dd), some (.int (nI i)), l3] [] M (some (.int (fdC P n k i dd))) M := by
  have hM0 := hM
  obtain ⟨hl, hs⟩ := hM0
  have hn := hP.1
  intro k
  induction k with
  | zero =>
    intro i dd l3 hi hd1 hd2
    have he : i = n := by omega
    subst he
    by_cases h3 : 0 < i ∧ dd = 0
    · have e : fdC P i 0 i dd = -4 := by rw [fdC]; exact if_pos h3
      rw [e]
      skip
      refine x_iload_n dX3_faultAsDays_4 rfl ?_
      refine x_aload_n dX3_faultAsDays_5 rfl ?_
      refine y_getI fkX3_15 dX3_faultAsDays_6 (by decide) rfl rfl ?_
      rw [hl]
      refine x_icmp_ge 89 dX3_faultAsDays_9 (by decide) (fun c_9 => ?_) (fun c_9 => ?_)
      · refine x_aload_n dX3_faultAsDays_89 rfl ?_
        refine y_getI fkX3_15 dX3_faultAsDays_90 (by decide) rfl rfl ?_
        rw [hl]
        refine x_if_le 105 dX3_faultAsDays_93 (by decide) (fun c_93 => ?_) (fun c_93 => ?_)
        · exact absurd c_93 (nI_nle h3.1 (by omega))
        · refine x_iload_n dX3_faultAsDays_96 rfl ?_
          refine x_if_ne 105 dX3_faultAsDays_97 (by decide) (fun c_97 => ?_) (fun c_97 => ?_)
          · exact absurd h3.2 c_97
          · refine x_bipushv (v := -4) dX3_faultAsDays_100 (by decide) ?_
            refine x_goto 109 dX3_faultAsDays_102 (by decide) ?_
            exact y_ret dX3_faultAsDays_109 rfl (rfl) (rfl) (rfl)
      · exact absurd (nI_le (a := i) (b := i) (by omega) (by omega)) c_9
    · have e : fdC P i 0 i dd = nI i := by rw [fdC]; exact if_neg h3
      rw [e]
      skip
      refine x_iload_n dX3_faultAsDays_4 rfl ?_
      refine x_aload_n dX3_faultAsDays_5 rfl ?_
      refine y_getI fkX3_15 dX3_faultAsDays_6 (by decide) rfl rfl ?_
      rw [hl]
      refine x_icmp_ge 89 dX3_faultAsDays_9 (by decide) (fun c_9 => ?_) (fun c_9 => ?_)
      · refine x_aload_n dX3_faultAsDays_89 rfl ?_
        refine y_getI fkX3_15 dX3_faultAsDays_90 (by decide) rfl rfl ?_
        rw [hl]
        refine x_if_le 105 dX3_faultAsDays_93 (by decide) (fun c_93 => ?_) (fun c_93 => ?_)
        · refine x_aload_n dX3_faultAsDays_105 rfl ?_
          refine y_getI fkX3_15 dX3_faultAsDays_106 (by decide) rfl rfl ?_
          rw [hl]
          exact y_ret dX3_faultAsDays_109 rfl (rfl) (rfl) (rfl)
        · refine x_iload_n dX3_faultAsDays_96 rfl ?_
          refine x_if_ne 105 dX3_faultAsDays_97 (by decide) (fun c_97 => ?_) (fun c_97 => ?_)
          · refine x_aload_n dX3_faultAsDays_105 rfl ?_
            refine y_getI fkX3_15 dX3_faultAsDays_106 (by decide) rfl rfl ?_
            rw [hl]
            exact y_ret dX3_faultAsDays_109 rfl (rfl) (rfl) (rfl)
          · exact absurd ⟨Nat.pos_of_ne_zero (fun q => absurd (by rw [q]; decide) c_93), c_97⟩ h3
      · exact absurd (nI_le (a := i) (b := i) (by omega) (by omega)) c_9
  | succ k ih =>
    intro i dd l3 hi hd1 hd2
    have hlt : i < n := by omega
    have hsg := y_signAt hP hM (j := i) (by omega)
    have ech : chF P n i = P i := by unfold chF; exact if_pos hlt
    rw [ech] at hsg
    have hsg2 : dd = 1 → Y 0 mX3_signAt 0 (lent 2 [.ref 73, .int (nI i - 1)]) [] M (some (.int (chF P n (i - 1)))) M := by
      intro h
      have h0 := hd1 h
      obtain ⟨m, rfl⟩ : ∃ m, i = m + 1 := ⟨i - 1, by omega⟩
      rw [nI_pred]
      exact y_signAt hP hM (by omega)
    have hst : ∀ dd', std dd (P i) (chF P n (i - 1)) = some dd' → ∀ l3, Y 1 mX3_faultAsDays 4 [some (.ref 73), some (.int dd'), some (.int (nI (i + 1))), l3] [] M (some (.int (fdC P n (k + 1) i dd))) M := by
      intro dd' h l3
      rw [fdC, h]
      refine ih (i + 1) dd' l3 (by omega) (fun _ => by omega) ?_
      simp only [std] at h
      rcases hd2 with rfl | rfl | rfl <;> grind
    have hno : std dd (P i) (chF P n (i - 1)) = none → fdC P n (k + 1) i dd = nI i := by
      intro h
      rw [fdC, h]
    skip
    refine x_iload_n dX3_faultAsDays_4 rfl ?_
    refine x_aload_n dX3_faultAsDays_5 rfl ?_
    refine y_getI fkX3_15 dX3_faultAsDays_6 (by decide) rfl rfl ?_
    rw [hl]
    refine x_icmp_ge 89 dX3_faultAsDays_9 (by decide) (fun c_9 => ?_) (fun c_9 => ?_)
    · exact absurd c_9 (nI_ge hlt (by omega))
    · refine x_aload_n dX3_faultAsDays_12 rfl ?_
      refine x_iload_n dX3_faultAsDays_13 rfl ?_
      refine y_callV (as := [_]) okX3_signAt lkX3_19 dX3_faultAsDays_14 rfl (by decide) rfl (hsg) (by omega) rfl (by simp [Value.category]) (Nat.le_of_ble_eq_true rfl) rfl rfl (cat8 rfl) ?_
      refine x_istore_n dX3_faultAsDays_17 (by decide) rfl ?_
      refine x_iload_n dX3_faultAsDays_18 rfl ?_
      refine x_if_le 58 dX3_faultAsDays_19 (by decide) (fun c_19 => ?_) (fun c_19 => ?_)
      · refine x_iload_n dX3_faultAsDays_58 rfl ?_
        refine x_bipushv (v := 120) dX3_faultAsDays_59 (by decide) ?_
        refine x_icmp_ne 69 dX3_faultAsDays_61 (by decide) (fun c_61 => ?_) (fun c_61 => ?_)
        · refine x_iload_n dX3_faultAsDays_69 rfl ?_
          refine x_bipushv (v := 99) dX3_faultAsDays_70 (by decide) ?_
          refine x_icmp_eq 83 dX3_faultAsDays_72 (by decide) (fun c_72 => ?_) (fun c_72 => ?_)
          · refine x_iincv (v := 1) dX3_faultAsDays_83 rfl (by decide) rfl (by decide) ?_
            refine x_goto 4 dX3_faultAsDays_86 (by decide) ?_
            rw [nI_1]
            exact hst _ (by simp only [std]; grind) _
          · refine x_iload_n dX3_faultAsDays_75 rfl ?_
            refine x_bipushv (v := 100) dX3_faultAsDays_76 (by decide) ?_
            refine x_icmp_eq 83 dX3_faultAsDays_78 (by decide) (fun c_78 => ?_) (fun c_78 => ?_)
            · refine x_iincv (v := 1) dX3_faultAsDays_83 rfl (by decide) rfl (by decide) ?_
              refine x_goto 4 dX3_faultAsDays_86 (by decide) ?_
              rw [nI_1]
              exact hst _ (by simp only [std]; grind) _
            · refine x_iload_n dX3_faultAsDays_81 rfl ?_
              exact y_ret dX3_faultAsDays_82 rfl (rfl) (by rw [hno (by simp only [std]; grind)]) (rfl)
        · refine x_iconstv (v := 2) dX3_faultAsDays_64 (by decide) ?_
          refine x_istore_n dX3_faultAsDays_65 (by decide) rfl ?_
          refine x_goto 83 dX3_faultAsDays_66 (by decide) ?_
          refine x_iincv (v := 1) dX3_faultAsDays_83 rfl (by decide) rfl (by decide) ?_
          refine x_goto 4 dX3_faultAsDays_86 (by decide) ?_
          rw [nI_1]
          exact hst _ (by simp only [std]; grind) _
      · refine x_iload_n dX3_faultAsDays_22 rfl ?_
        refine x_bipushv (v := 48) dX3_faultAsDays_23 (by decide) ?_
        refine x_icmp_lt 50 dX3_faultAsDays_25 (by decide) (fun c_25 => ?_) (fun c_25 => ?_)
        · refine x_iload_n dX3_faultAsDays_50 rfl ?_
          exact y_ret dX3_faultAsDays_51 rfl (rfl) (by rw [hno (by simp only [std]; grind)]) (rfl)
        · refine x_iload_n dX3_faultAsDays_28 rfl ?_
          refine x_bipushv (v := 54) dX3_faultAsDays_29 (by decide) ?_
          refine x_icmp_gt 50 dX3_faultAsDays_31 (by decide) (fun c_31 => ?_) (fun c_31 => ?_)
          · refine x_iload_n dX3_faultAsDays_50 rfl ?_
            exact y_ret dX3_faultAsDays_51 rfl (rfl) (by rw [hno (by simp only [std]; grind)]) (rfl)
          · refine x_iload_n dX3_faultAsDays_34 rfl ?_
            refine x_iconstv (v := 1) dX3_faultAsDays_35 (by decide) ?_
            refine x_icmp_ne 52 dX3_faultAsDays_36 (by decide) (fun c_36 => ?_) (fun c_36 => ?_)
            · refine x_iincv (v := -1) dX3_faultAsDays_52 rfl (by decide) rfl (by decide) ?_
              refine x_goto 83 dX3_faultAsDays_55 (by decide) ?_
              refine x_iincv (v := 1) dX3_faultAsDays_83 rfl (by decide) rfl (by decide) ?_
              refine x_goto 4 dX3_faultAsDays_86 (by decide) ?_
              rw [nI_1]
              exact hst _ (by simp only [std]; grind) _
            · refine x_iload_n dX3_faultAsDays_39 rfl ?_
              refine x_aload_n dX3_faultAsDays_40 rfl ?_
              refine x_iload_n dX3_faultAsDays_41 rfl ?_
              refine x_iconstv (v := 1) dX3_faultAsDays_42 (by decide) ?_
              refine x_isub dX3_faultAsDays_43 ?_
              refine y_callV (as := [_]) okX3_signAt lkX3_19 dX3_faultAsDays_44 rfl (by decide) rfl (hsg2 c_36) (by omega) rfl (by simp [Value.category]) (Nat.le_of_ble_eq_true rfl) rfl rfl (cat8 rfl) ?_
              refine x_icmp_ne 52 dX3_faultAsDays_47 (by decide) (fun c_47 => ?_) (fun c_47 => ?_)
              · refine x_iincv (v := -1) dX3_faultAsDays_52 rfl (by decide) rfl (by decide) ?_
                refine x_goto 83 dX3_faultAsDays_55 (by decide) ?_
                refine x_iincv (v := 1) dX3_faultAsDays_83 rfl (by decide) rfl (by decide) ?_
                refine x_goto 4 dX3_faultAsDays_86 (by decide) ?_
                rw [nI_1]
                exact hst _ (by simp only [std]; grind) _
              · refine x_iload_n dX3_faultAsDays_50 rfl ?_
                exact y_ret dX3_faultAsDays_51 rfl (rfl) (by rw [hno (by simp only [std]; grind)]) (rfl)
theorem y_fd {M : Mem} {P : Row} {n : Nat} (hP : Pad P n) (hM : PadC M P n) : Y 1 mX3_faultAsDays 0 (lent 4 [.ref 73]) [] M (some (.int (fdC P n n 0 0))) M := by
  have h := y_fd_loop hP hM n 0 0 none (by omega) (by decide) (by decide)
  refine x_iconstv (v := 0) dX3_faultAsDays_0 (by decide) ?_
  refine x_istore_n dX3_faultAsDays_1 (by decide) rfl ?_
  refine x_iconstv (v := 0) dX3_faultAsDays_2 (by decide) ?_
  refine x_istore_n dX3_faultAsDays_3 (by decide) rfl ?_
  exact h
theorem y_nT_loop {M : Mem} {P : Row} {n : Nat} (hP : Pad P n) (hM : PadC M P n) : ∀ (fu i : Nat) (acc x : Int32), i ≤ n → n - i < fu → x = nI i → acc = sumF (fun j => ind (P j = 62)) i → Y 1 mX3_numberOfTraders 4 [some (.ref 73), some (.int acc), some (.int x)] [] M (some (.int (sumF (fun j => ind (P j = 62)) n))) M := by
  have hM0 := hM
  obtain ⟨hl, hs⟩ := hM0
  have hn := hP.1
  have hsg : ∀ {i : Nat}, i < n → Y 0 mX3_signAt 0 (lent 2 [.ref 73, .int (nI i)]) [] M (some (.int (P i))) M := by
    intro i hi
    have h := y_signAt hP hM (j := i) (by omega)
    rw [show chF P n i = P i from by unfold chF; exact if_pos hi] at h
    exact h
  intro fu
  induction fu with
  | zero => intro i acc x h1 h2; omega
  | succ fu ih =>
    intro i acc x h1 h2 hx ha9
    subst hx
    refine x_iload_n dX3_numberOfTraders_4 rfl ?_
    refine x_aload_n dX3_numberOfTraders_5 rfl ?_
    refine y_getI fkX3_15 dX3_numberOfTraders_6 (by decide) rfl rfl ?_
    rw [hl]
    refine x_icmp_ge 31 dX3_numberOfTraders_9 (by decide) (fun c_9 => ?_) (fun c_9 => ?_)
    · have he := eqn rfl hn h1 c_9
      subst he
      refine x_iload_n dX3_numberOfTraders_31 rfl ?_
      exact y_ret dX3_numberOfTraders_32 rfl (rfl) (ha9) (rfl)
    · have hlt := ltn rfl hn h1 c_9
      refine x_aload_n dX3_numberOfTraders_12 rfl ?_
      refine x_iload_n dX3_numberOfTraders_13 rfl ?_
      refine y_callV (as := [_]) okX3_signAt lkX3_19 dX3_numberOfTraders_14 rfl (by decide) rfl (hsg hlt) (by omega) rfl (by simp [Value.category]) (Nat.le_of_ble_eq_true rfl) rfl rfl (cat8 rfl) ?_
      refine x_bipushv (v := 62) dX3_numberOfTraders_17 (by decide) ?_
      refine x_icmp_ne 25 dX3_numberOfTraders_19 (by decide) (fun c_19 => ?_) (fun c_19 => ?_)
      · refine x_iincv (v := 1) dX3_numberOfTraders_25 rfl (by decide) rfl (by decide) ?_
        refine x_goto 4 dX3_numberOfTraders_28 (by decide) ?_
        exact ih (i + 1) _ _ (by omega) (by omega) (by rw [nI_1]) (by simp_all [sumF, ind])
      · refine x_iincv (v := 1) dX3_numberOfTraders_22 rfl (by decide) rfl (by decide) ?_
        refine x_iincv (v := 1) dX3_numberOfTraders_25 rfl (by decide) rfl (by decide) ?_
        refine x_goto 4 dX3_numberOfTraders_28 (by decide) ?_
        exact ih (i + 1) _ _ (by omega) (by omega) (by rw [nI_1]) (by simp_all [sumF, ind])
theorem y_nTr {M : Mem} {P : Row} {n : Nat} (hP : Pad P n) (hM : PadC M P n) : Y 1 mX3_numberOfTraders 0 (lent 3 [.ref 73]) [] M (some (.int (sumF (fun j => ind (P j = 62)) n))) M := by
  have h := y_nT_loop hP hM (n + 1) 0 0 0 (by omega) (by omega) rfl rfl
  refine x_iconstv (v := 0) dX3_numberOfTraders_0 (by decide) ?_
  refine x_istore_n dX3_numberOfTraders_1 (by decide) rfl ?_
  refine x_iconstv (v := 0) dX3_numberOfTraders_2 (by decide) ?_
  refine x_istore_n dX3_numberOfTraders_3 (by decide) rfl ?_
  exact h
theorem y_wb_loop {M : Mem} {P : Row} {n : Nat} (hP : Pad P n) (hM : PadC M P n) : ∀ (k i : Nat) (a w : Int32), i + k = n → Y 2 mX3_wantsBehind 6 [some (.ref 73), some (.int a), some (.int w), some (.int (nI i))] [] M (some (.int (wbC P n k i w))) M := by
  have hM0 := hM
  obtain ⟨hl, hs⟩ := hM0
  have hn := hP.1
  intro k
  induction k with
  | zero =>
    intro i a w hi
    have he : i = n := by omega
    subst he
    rw [wbC]
    skip
    refine x_iload_n dX3_wantsBehind_6 rfl ?_
    refine x_aload_n dX3_wantsBehind_7 rfl ?_
    refine y_getI fkX3_15 dX3_wantsBehind_8 (by decide) rfl rfl ?_
    rw [hl]
    refine x_icmp_ge 40 dX3_wantsBehind_11 (by decide) (fun c_11 => ?_) (fun c_11 => ?_)
    · refine x_iload_n dX3_wantsBehind_40 rfl ?_
      exact y_ret dX3_wantsBehind_41 rfl (rfl) (rfl) (rfl)
    · exact absurd (nI_le (a := i) (b := i) (by omega) (by omega)) c_11
  | succ k ih =>
    intro i a w hi
    have hlt : i < n := by omega
    have hsg := y_signAt hP hM (j := i) (by omega)
    have hdg := y_digitAt hP hM (j := i) (by omega)
    have ech : chF P n i = P i := by unfold chF; exact if_pos hlt
    rw [ech] at hsg hdg
    by_cases h44 : P i = 44
    · rw [wbC, if_pos h44]
      skip
      refine x_iload_n dX3_wantsBehind_6 rfl ?_
      refine x_aload_n dX3_wantsBehind_7 rfl ?_
      refine y_getI fkX3_15 dX3_wantsBehind_8 (by decide) rfl rfl ?_
      rw [hl]
      refine x_icmp_ge 40 dX3_wantsBehind_11 (by decide) (fun c_11 => ?_) (fun c_11 => ?_)
      · exact absurd c_11 (nI_ge hlt (by omega))
      · refine x_aload_n dX3_wantsBehind_14 rfl ?_
        refine x_iload_n dX3_wantsBehind_15 rfl ?_
        refine y_callV (as := [_]) okX3_signAt lkX3_19 dX3_wantsBehind_16 rfl (by decide) rfl (hsg) (by omega) rfl (by simp [Value.category]) (Nat.le_of_ble_eq_true rfl) rfl rfl (cat8 rfl) ?_
        refine x_bipushv (v := 44) dX3_wantsBehind_19 (by decide) ?_
        refine x_icmp_eq 40 dX3_wantsBehind_21 (by decide) (fun c_21 => ?_) (fun c_21 => ?_)
        · refine x_iload_n dX3_wantsBehind_40 rfl ?_
          exact y_ret dX3_wantsBehind_41 rfl (rfl) (rfl) (rfl)
        · exact absurd h44 c_21
    · rw [wbC, if_neg h44]
      skip
      refine x_iload_n dX3_wantsBehind_6 rfl ?_
      refine x_aload_n dX3_wantsBehind_7 rfl ?_
      refine y_getI fkX3_15 dX3_wantsBehind_8 (by decide) rfl rfl ?_
      rw [hl]
      refine x_icmp_ge 40 dX3_wantsBehind_11 (by decide) (fun c_11 => ?_) (fun c_11 => ?_)
      · exact absurd c_11 (nI_ge hlt (by omega))
      · refine x_aload_n dX3_wantsBehind_14 rfl ?_
        refine x_iload_n dX3_wantsBehind_15 rfl ?_
        refine y_callV (as := [_]) okX3_signAt lkX3_19 dX3_wantsBehind_16 rfl (by decide) rfl (hsg) (by omega) rfl (by simp [Value.category]) (Nat.le_of_ble_eq_true rfl) rfl rfl (cat8 rfl) ?_
        refine x_bipushv (v := 44) dX3_wantsBehind_19 (by decide) ?_
        refine x_icmp_eq 40 dX3_wantsBehind_21 (by decide) (fun c_21 => ?_) (fun c_21 => ?_)
        · exact absurd c_21 h44
        · refine x_iload_n dX3_wantsBehind_24 rfl ?_
          refine x_aload_n dX3_wantsBehind_25 rfl ?_
          refine x_iload_n dX3_wantsBehind_26 rfl ?_
          refine y_callV (as := [_]) okX3_digitAt lkX3_23 dX3_wantsBehind_27 rfl (by decide) rfl (hdg) (by omega) rfl (by simp [Value.category]) (Nat.le_of_ble_eq_true rfl) rfl rfl (cat8 rfl) ?_
          refine y_callSN (as := [_, _]) okX5_with nsX3_27 dX3_wantsBehind_30 rfl (y_with) (by omega) rfl (by simp [Value.category]) (Nat.le_of_ble_eq_true rfl) (cat8 rfl) ?_
          refine x_istore_n dX3_wantsBehind_33 (by decide) rfl ?_
          refine x_iincv (v := 1) dX3_wantsBehind_34 rfl (by decide) rfl (by decide) ?_
          refine x_goto 6 dX3_wantsBehind_37 (by decide) ?_
          rw [nI_1]
          exact ih (i + 1) _ _ (by omega)
theorem y_wb {M : Mem} {P : Row} {n : Nat} (hP : Pad P n) (hM : PadC M P n) {i : Nat} (hi : i < n) : Y 2 mX3_wantsBehind 0 (lent 4 [.ref 73, .int (nI i)]) [] M (some (.int (wbC P n (n - (i + 1)) (i + 1) 0))) M := by
  have h := y_wb_loop hP hM (n - (i + 1)) (i + 1) (nI i) 0 (by omega)
  refine x_iconstv (v := 0) dX3_wantsBehind_0 (by decide) ?_
  refine x_istore_n dX3_wantsBehind_1 (by decide) rfl ?_
  refine x_iload_n dX3_wantsBehind_2 rfl ?_
  refine x_iconstv (v := 1) dX3_wantsBehind_3 (by decide) ?_
  refine x_iadd dX3_wantsBehind_4 ?_
  rw [nI_1]
  refine x_istore_n dX3_wantsBehind_5 (by decide) rfl ?_
  exact h
