theorem y_add {o : Nat} (hk : IsMk o) {M : Mem} {V : Row} (hR : RM M o V) (hV : WF V) (h6 : nT V < 7) {mk w : Int32} : Y 1 mX2_add 0 (lent 3 [.ref o, .int mk, .int w]) [] M none (adM M o (nT V) mk w) := by
  have hs : M o 7 = nI (nT V) := by rw [hR.1.1]; exact (WF_n hV).2
  refine x_aload_n dX2_add_0 rfl ?_
  refine y_getI fkX2_61 dX2_add_1 (hk.1 0 (by decide)) (hk.2 0 (by decide)) rfl ?_
  rw [hs]
  refine x_if_lt 16 dX2_add_4 (by decide) (fun c_4 => ?_) (fun c_4 => ?_)
  · exact absurd c_4 (nI_pos (by omega))
  · refine x_aload_n dX2_add_7 rfl ?_
    refine y_getI fkX2_61 dX2_add_8 (hk.1 0 (by decide)) (hk.2 0 (by decide)) rfl ?_
    rw [hs]
    refine x_bipushv (v := 7) dX2_add_11 (by decide) ?_
    refine x_icmp_lt 17 dX2_add_13 (by decide) (fun c_13 => ?_) (fun c_13 => ?_)
    · refine x_aload_n dX2_add_17 rfl ?_
      refine y_getR fkX2_9 dX2_add_18 (hk.1 0 (by decide)) (hk.2 0 (by decide)) rfl ?_
      refine x_aload_n dX2_add_21 rfl ?_
      refine y_getI fkX2_61 dX2_add_22 (hk.1 0 (by decide)) (hk.2 0 (by decide)) rfl ?_
      rw [hs]
      refine x_iload_n dX2_add_25 rfl ?_
      refine y_iastn (j := nT V) dX2_add_26 (hk.1 1 (by decide)) (hk.2 1 (by decide)) (ixN (by omega)) (by omega) ?_
      refine x_aload_n dX2_add_27 rfl ?_
      refine y_getR fkX2_15 dX2_add_28 (hk.1 0 (by decide)) (hk.2 0 (by decide)) rfl ?_
      refine x_aload_n dX2_add_31 rfl ?_
      refine y_getI fkX2_61 dX2_add_32 (hk.1 0 (by decide)) (hk.2 0 (by decide)) rfl ?_
      rw [updM_ne (k := o) (by omega), hs]
      refine x_iload_n dX2_add_35 rfl ?_
      refine y_iastn (j := nT V) dX2_add_36 (hk.1 2 (by decide)) (hk.2 2 (by decide)) (ixN (by omega)) (by omega) ?_
      refine x_aload_n dX2_add_37 rfl ?_
      refine y_getR fkX2_24 dX2_add_38 (hk.1 0 (by decide)) (hk.2 0 (by decide)) rfl ?_
      refine x_aload_n dX2_add_41 rfl ?_
      refine y_getI fkX2_61 dX2_add_42 (hk.1 0 (by decide)) (hk.2 0 (by decide)) rfl ?_
      rw [updM_ne (k := o) (by omega), updM_ne (k := o) (by omega), hs]
      refine x_iconstv (v := 0) dX2_add_45 (by decide) ?_
      refine y_iastn (j := nT V) dX2_add_46 (hk.1 5 (by decide)) (hk.2 5 (by decide)) (ixN (by omega)) (by omega) ?_
      refine x_aload_n dX2_add_47 rfl ?_
      refine x_aload_n dX2_add_48 rfl ?_
      refine y_getI fkX2_61 dX2_add_49 (hk.1 0 (by decide)) (hk.2 0 (by decide)) rfl ?_
      rw [updM_ne (k := o) (by omega), updM_ne (k := o) (by omega), updM_ne (k := o) (by omega), hs]
      refine y_callV (as := [_]) okX2_makeWare lkX2_83 dX2_add_52 rfl (hk.1 0 (by decide)) (hk.2 0 (by decide)) (y_makeWare hk h6) (by omega) rfl (by simp [Value.category]) (Nat.le_of_ble_eq_true rfl) rfl rfl (cat8 rfl) ?_
      refine x_aload_n dX2_add_55 rfl ?_
      refine x_dup_r dX2_add_56 ?_
      refine y_getI fkX2_61 dX2_add_57 (hk.1 0 (by decide)) (hk.2 0 (by decide)) rfl ?_
      refine x_iconstv (v := 1) dX2_add_60 (by decide) ?_
      refine x_iadd dX2_add_61 ?_
      refine y_putI fkX2_61 dX2_add_62 (hk.1 0 (by decide)) (hk.2 0 (by decide)) rfl rfl rfl rfl ?_
      exact y_vret dX2_add_65 rfl (rfl)
    · exact absurd (nI_lt (a := nT V) (b := 7) h6 (by decide)) c_13
theorem y_remove_loop {o : Nat} (hk : IsMk o) {M : Mem} {V : Row} (hR : RM M o V) (hV : WF V) {t : Nat} {M9 : Mem} (hn0 : 0 < nT V) (hx : Y 0 mX2_remove 92 [some (.ref o), some (.int (nI t)), some (.int (nI (nT V - 1)))] [] (rmM M o t (nT V - 1)) none M9) : ∀ (fu i : Nat), t ≤ i → i ≤ nT V - 1 → nT V - i < fu → Y 0 mX2_remove 2 [some (.ref o), some (.int (nI t)), some (.int (nI i))] [] (rmM M o t i) none M9 := by
  have hR0 := hR
  obtain ⟨⟨r7, r8, r9, r10, r11, r12, r13, r14, r15, r2⟩, rk, rt⟩ := hR0
  obtain ⟨hn1, hn2⟩ := WF_n hV
  have hm1 : nI (nT V) - 1 = nI (nT V - 1) := by
    obtain ⟨m, hm⟩ : ∃ m, nT V = m + 1 := ⟨nT V - 1, by omega⟩
    rw [hm, nI_pred]
    rfl
  intro fu
  induction fu with
  | zero => intro i h0 h1 h2; omega
  | succ fu ih =>
    intro i h0 h1 h2
    by_cases hlt : i < nT V - 1
    · have hnle : ¬ nI (nT V) - 1 ≤ nI i := by rw [hm1]; exact nI_ge hlt (by omega)
      skip
      refine x_iload_n dX2_remove_2 rfl ?_
      refine x_if_lt 92 dX2_remove_3 (by decide) (fun c_3 => ?_) (fun c_3 => ?_)
      · exact absurd c_3 (nI_pos (by omega))
      · refine x_iload_n dX2_remove_6 rfl ?_
        refine x_aload_n dX2_remove_7 rfl ?_
        refine y_getI fkX2_61 dX2_remove_8 (hk.1 0 (by decide)) (hk.2 0 (by decide)) rfl ?_
        rw [rm_o, r7, hn2]
        refine x_iconstv (v := 1) dX2_remove_11 (by decide) ?_
        refine x_isub dX2_remove_12 ?_
        refine x_icmp_ge 92 dX2_remove_13 (by decide) (fun c_13 => ?_) (fun c_13 => ?_)
        · exact absurd c_13 hnle
        · refine x_aload_n dX2_remove_16 rfl ?_
          refine y_getR fkX2_9 dX2_remove_17 (hk.1 0 (by decide)) (hk.2 0 (by decide)) rfl ?_
          refine x_iload_n dX2_remove_20 rfl ?_
          refine x_aload_n dX2_remove_21 rfl ?_
          refine y_getR fkX2_9 dX2_remove_22 (hk.1 0 (by decide)) (hk.2 0 (by decide)) rfl ?_
          refine x_iload_n dX2_remove_25 rfl ?_
          refine x_iconstv (v := 1) dX2_remove_26 (by decide) ?_
          refine x_iadd dX2_remove_27 ?_
          rw [nI_1]
          refine y_ialdn (j := i + 1) dX2_remove_28 (hk.1 1 (by decide)) (hk.2 1 (by decide)) (ixN (by omega)) (by omega) ?_
          refine y_iastn (j := i) dX2_remove_29 (hk.1 1 (by decide)) (hk.2 1 (by decide)) (ixN (by omega)) (by omega) ?_
          rw [rs1_eq]
          refine x_aload_n dX2_remove_30 rfl ?_
          refine y_getR fkX2_15 dX2_remove_31 (hk.1 0 (by decide)) (hk.2 0 (by decide)) rfl ?_
          refine x_iload_n dX2_remove_34 rfl ?_
          refine x_aload_n dX2_remove_35 rfl ?_
          refine y_getR fkX2_15 dX2_remove_36 (hk.1 0 (by decide)) (hk.2 0 (by decide)) rfl ?_
          refine x_iload_n dX2_remove_39 rfl ?_
          refine x_iconstv (v := 1) dX2_remove_40 (by decide) ?_
          refine x_iadd dX2_remove_41 ?_
          rw [nI_1]
          refine y_ialdn (j := i + 1) dX2_remove_42 (hk.1 2 (by decide)) (hk.2 2 (by decide)) (ixN (by omega)) (by omega) ?_
          refine y_iastn (j := i) dX2_remove_43 (hk.1 2 (by decide)) (hk.2 2 (by decide)) (ixN (by omega)) (by omega) ?_
          rw [rs1_eq]
          refine x_aload_n dX2_remove_44 rfl ?_
          refine y_getR fkX2_18 dX2_remove_45 (hk.1 0 (by decide)) (hk.2 0 (by decide)) rfl ?_
          refine x_iload_n dX2_remove_48 rfl ?_
          refine x_aload_n dX2_remove_49 rfl ?_
          refine y_getR fkX2_18 dX2_remove_50 (hk.1 0 (by decide)) (hk.2 0 (by decide)) rfl ?_
          refine x_iload_n dX2_remove_53 rfl ?_
          refine x_iconstv (v := 1) dX2_remove_54 (by decide) ?_
          refine x_iadd dX2_remove_55 ?_
          rw [nI_1]
          refine y_ialdn (j := i + 1) dX2_remove_56 (hk.1 3 (by decide)) (hk.2 3 (by decide)) (ixN (by omega)) (by omega) ?_
          refine y_iastn (j := i) dX2_remove_57 (hk.1 3 (by decide)) (hk.2 3 (by decide)) (ixN (by omega)) (by omega) ?_
          rw [rs1_eq]
          refine x_aload_n dX2_remove_58 rfl ?_
          refine y_getR fkX2_21 dX2_remove_59 (hk.1 0 (by decide)) (hk.2 0 (by decide)) rfl ?_
          refine x_iload_n dX2_remove_62 rfl ?_
          refine x_aload_n dX2_remove_63 rfl ?_
          refine y_getR fkX2_21 dX2_remove_64 (hk.1 0 (by decide)) (hk.2 0 (by decide)) rfl ?_
          refine x_iload_n dX2_remove_67 rfl ?_
          refine x_iconstv (v := 1) dX2_remove_68 (by decide) ?_
          refine x_iadd dX2_remove_69 ?_
          rw [nI_1]
          refine y_ialdn (j := i + 1) dX2_remove_70 (hk.1 4 (by decide)) (hk.2 4 (by decide)) (ixN (by omega)) (by omega) ?_
          refine y_iastn (j := i) dX2_remove_71 (hk.1 4 (by decide)) (hk.2 4 (by decide)) (ixN (by omega)) (by omega) ?_
          rw [rs1_eq]
          refine x_aload_n dX2_remove_72 rfl ?_
          refine y_getR fkX2_24 dX2_remove_73 (hk.1 0 (by decide)) (hk.2 0 (by decide)) rfl ?_
          refine x_iload_n dX2_remove_76 rfl ?_
          refine x_aload_n dX2_remove_77 rfl ?_
          refine y_getR fkX2_24 dX2_remove_78 (hk.1 0 (by decide)) (hk.2 0 (by decide)) rfl ?_
          refine x_iload_n dX2_remove_81 rfl ?_
          refine x_iconstv (v := 1) dX2_remove_82 (by decide) ?_
          refine x_iadd dX2_remove_83 ?_
          rw [nI_1]
          refine y_ialdn (j := i + 1) dX2_remove_84 (hk.1 5 (by decide)) (hk.2 5 (by decide)) (ixN (by omega)) (by omega) ?_
          refine y_iastn (j := i) dX2_remove_85 (hk.1 5 (by decide)) (hk.2 5 (by decide)) (ixN (by omega)) (by omega) ?_
          rw [rs1_eq]
          refine x_iincv (v := 1) dX2_remove_86 rfl (by decide) rfl (by decide) ?_
          refine x_goto 2 dX2_remove_89 (by decide) ?_
          rw [rm_s (by omega), nI_1]
          exact ih (i + 1) (by omega) (by omega) (by omega)
    · have he : i = nT V - 1 := by omega
      subst he
      have hle : nI (nT V) - 1 ≤ nI (nT V - 1) := by rw [hm1]; exact Int32.le_refl _
      skip
      refine x_iload_n dX2_remove_2 rfl ?_
      refine x_if_lt 92 dX2_remove_3 (by decide) (fun c_3 => ?_) (fun c_3 => ?_)
      · exact absurd c_3 (nI_pos (by omega))
      · refine x_iload_n dX2_remove_6 rfl ?_
        refine x_aload_n dX2_remove_7 rfl ?_
        refine y_getI fkX2_61 dX2_remove_8 (hk.1 0 (by decide)) (hk.2 0 (by decide)) rfl ?_
        rw [rm_o, r7, hn2]
        refine x_iconstv (v := 1) dX2_remove_11 (by decide) ?_
        refine x_isub dX2_remove_12 ?_
        refine x_icmp_ge 92 dX2_remove_13 (by decide) (fun c_13 => ?_) (fun c_13 => ?_)
        · exact hx
        · exact absurd hle c_13
theorem y_remove {o : Nat} (hk : IsMk o) {M : Mem} {V : Row} (hR : RM M o V) (hV : WF V) {t : Nat} (ht : t < nT V) : ∃ M' : Mem, Y 0 mX2_remove 0 (lent 3 [.ref o, .int (nI t)]) [] M none M' ∧ RM M' o (goV V t) ∧ FrO o M M' := by
  have hR0 := hR
  obtain ⟨⟨r7, r8, r9, r10, r11, r12, r13, r14, r15, r2⟩, rk, rt⟩ := hR0
  obtain ⟨hn1, hn2⟩ := WF_n hV
  have key : ∃ M' : Mem, Y 0 mX2_remove 92 [some (.ref o), some (.int (nI t)), some (.int (nI (nT V - 1)))] [] (rmM M o t (nT V - 1)) none M' ∧ RM M' o (goV V t) ∧ FrO o M M' := by
    have hg11 : updM (rmM M o t (nT V - 1)) o 7 (rmM M o t (nT V - 1) o 7 - 1) o 11 = M o 11 := by
      rw [updM_at, if_neg (by omega), rm_o]
    have hrow : ∀ x y : Int32, ∀ c, 1 ≤ c → c ≤ 5 → ∀ j, j < nT V - 1 → rmM M o t (nT V - 1) (o + c) j = M (o + c) (if j < t then j else j + 1) := by
      intro x y c h1 h2 j hj
      simp only [rmM]
      by_cases h : j < t
      · rw [if_neg (by omega), if_pos h]
      · rw [if_pos (by omega), if_neg h]
    have hgs := goS_in hV ht
    have hfr : FrO o M (rmM M o t (nT V - 1)) := fun c hc => rm_ne (by omega)
    by_cases c1 : M o 11 = nI t
    · have e9 : V 9 = nI t := (sh_eq hR hV ht).mp c1.symm
      refine ⟨updM (updM (rmM M o t (nT V - 1)) o 7 (rmM M o t (nT V - 1) o 7 - 1)) o 11 (-1), ?_, ?_, (hfr.tr (FrO.up (by omega))).tr (FrO.up (by omega))⟩
      · skip
        refine x_aload_n dX2_remove_92 rfl ?_
        refine x_dup_r dX2_remove_93 ?_
        refine y_getI fkX2_61 dX2_remove_94 (hk.1 0 (by decide)) (hk.2 0 (by decide)) rfl ?_
        refine x_iconstv (v := 1) dX2_remove_97 (by decide) ?_
        refine x_isub dX2_remove_98 ?_
        refine y_putI fkX2_61 dX2_remove_99 (hk.1 0 (by decide)) (hk.2 0 (by decide)) rfl rfl rfl rfl ?_
        refine x_aload_n dX2_remove_102 rfl ?_
        refine y_getI fkX2_40 dX2_remove_103 (hk.1 0 (by decide)) (hk.2 0 (by decide)) rfl ?_
        rw [hg11]
        refine x_iload_n dX2_remove_106 rfl ?_
        refine x_icmp_ne 118 dX2_remove_107 (by decide) (fun c_107 => ?_) (fun c_107 => ?_)
        · exact absurd c1 c_107
        · refine x_aload_n dX2_remove_110 rfl ?_
          refine x_iconstv (v := -1) dX2_remove_111 (by decide) ?_
          refine y_putI fkX2_40 dX2_remove_112 (hk.1 0 (by decide)) (hk.2 0 (by decide)) rfl rfl rfl rfl ?_
          refine x_goto 136 dX2_remove_115 (by decide) ?_
          exact y_vret dX2_remove_136 rfl (rfl)
      · refine RM_goG hR hV ht (fun k k1 k2 => ?_) ?_ ?_ ?_ (fun c a1 a2 j hj => ?_)
        · rw [updM_at, if_neg (by omega), updM_at, if_neg (by omega), rm_o]
        · rw [updM_at, if_neg (by omega), updM_at, if_pos ⟨rfl, rfl⟩, rm_o]
        · left
          exact ⟨by simp [updM], by unfold goS; rw [if_pos e9]⟩
        · exact ⟨by rw [updM_ne (by omega), updM_ne (by omega), rm_ne (by omega)], by rw [updM_ne (by omega), updM_ne (by omega), rm_ne (by omega)]⟩
        · rw [updM_ne (by omega), updM_ne (by omega)]
          exact hrow 0 0 c a1 a2 j hj
    · have e9 : ¬ V 9 = nI t := fun q => c1 ((sh_eq hR hV ht).mpr q).symm
      by_cases c2 : nI t < M o 11
      · have e10 : M o 11 = V 9 := by
          rcases r11 with ⟨q1, q2⟩ | ⟨q1, q2⟩
          · rw [q1] at c2
            exact absurd (Int32.lt_of_le_of_lt (nI_pos' (n := t) (by omega)) c2) (by decide)
          · exact q1
        have hgs2 : goS V t = V 9 - 1 := by unfold goS; rw [if_neg e9, if_pos (by rw [← e10]; exact c2)]
        have hin : vp_in (goS V t) (nT V - 1) := by
          rcases hgs with q | q
          · rcases r11 with ⟨q1, q2⟩ | ⟨q1, q2⟩
            · rw [q1] at c2
              exact absurd (Int32.lt_of_le_of_lt (nI_pos' (n := t) (by omega)) c2) (by decide)
            · obtain ⟨s, hs, he⟩ := vp_in_of q2 (by omega)
              rw [hgs2, he] at q
              rw [e10, he] at c2
              have hts := (nI_ltI (by omega) (by omega)).mp c2
              obtain ⟨m, hm⟩ : ∃ m, s = m + 1 := ⟨s - 1, by omega⟩
              subst hm
              rw [nI_pred] at q
              exact absurd q (m4_nI (by omega))
          · exact q
        refine ⟨updM (updM (rmM M o t (nT V - 1)) o 7 (rmM M o t (nT V - 1) o 7 - 1)) o 11 (M o 11 - 1), ?_, ?_, (hfr.tr (FrO.up (by omega))).tr (FrO.up (by omega))⟩
        · skip
          refine x_aload_n dX2_remove_92 rfl ?_
          refine x_dup_r dX2_remove_93 ?_
          refine y_getI fkX2_61 dX2_remove_94 (hk.1 0 (by decide)) (hk.2 0 (by decide)) rfl ?_
          refine x_iconstv (v := 1) dX2_remove_97 (by decide) ?_
          refine x_isub dX2_remove_98 ?_
          refine y_putI fkX2_61 dX2_remove_99 (hk.1 0 (by decide)) (hk.2 0 (by decide)) rfl rfl rfl rfl ?_
          refine x_aload_n dX2_remove_102 rfl ?_
          refine y_getI fkX2_40 dX2_remove_103 (hk.1 0 (by decide)) (hk.2 0 (by decide)) rfl ?_
          rw [hg11]
          refine x_iload_n dX2_remove_106 rfl ?_
          refine x_icmp_ne 118 dX2_remove_107 (by decide) (fun c_107 => ?_) (fun c_107 => ?_)
          · refine x_aload_n dX2_remove_118 rfl ?_
            refine y_getI fkX2_40 dX2_remove_119 (hk.1 0 (by decide)) (hk.2 0 (by decide)) rfl ?_
            rw [hg11]
            refine x_iload_n dX2_remove_122 rfl ?_
            refine x_icmp_le 136 dX2_remove_123 (by decide) (fun c_123 => ?_) (fun c_123 => ?_)
            · exact absurd (Int32.lt_of_lt_of_le c2 c_123) (by simp)
            · refine x_aload_n dX2_remove_126 rfl ?_
              refine x_dup_r dX2_remove_127 ?_
              refine y_getI fkX2_40 dX2_remove_128 (hk.1 0 (by decide)) (hk.2 0 (by decide)) rfl ?_
              rw [hg11]
              refine x_iconstv (v := 1) dX2_remove_131 (by decide) ?_
              refine x_isub dX2_remove_132 ?_
              refine y_putI fkX2_40 dX2_remove_133 (hk.1 0 (by decide)) (hk.2 0 (by decide)) rfl rfl rfl rfl ?_
              exact y_vret dX2_remove_136 rfl (rfl)
          · exact absurd c_107 c1
        · refine RM_goG hR hV ht (fun k k1 k2 => ?_) ?_ ?_ ?_ (fun c a1 a2 j hj => ?_)
          · rw [updM_at, if_neg (by omega), updM_at, if_neg (by omega), rm_o]
          · rw [updM_at, if_neg (by omega), updM_at, if_pos ⟨rfl, rfl⟩, rm_o]
          · right
            exact ⟨by rw [hgs2, ← e10]; simp [updM], hin⟩
          · exact ⟨by rw [updM_ne (by omega), updM_ne (by omega), rm_ne (by omega)], by rw [updM_ne (by omega), updM_ne (by omega), rm_ne (by omega)]⟩
          · rw [updM_ne (by omega), updM_ne (by omega)]
            exact hrow 0 0 c a1 a2 j hj
      · refine ⟨updM (rmM M o t (nT V - 1)) o 7 (rmM M o t (nT V - 1) o 7 - 1), ?_, ?_, hfr.tr (FrO.up (by omega))⟩
        · skip
          refine x_aload_n dX2_remove_92 rfl ?_
          refine x_dup_r dX2_remove_93 ?_
          refine y_getI fkX2_61 dX2_remove_94 (hk.1 0 (by decide)) (hk.2 0 (by decide)) rfl ?_
          refine x_iconstv (v := 1) dX2_remove_97 (by decide) ?_
          refine x_isub dX2_remove_98 ?_
          refine y_putI fkX2_61 dX2_remove_99 (hk.1 0 (by decide)) (hk.2 0 (by decide)) rfl rfl rfl rfl ?_
          refine x_aload_n dX2_remove_102 rfl ?_
          refine y_getI fkX2_40 dX2_remove_103 (hk.1 0 (by decide)) (hk.2 0 (by decide)) rfl ?_
          rw [hg11]
          refine x_iload_n dX2_remove_106 rfl ?_
          refine x_icmp_ne 118 dX2_remove_107 (by decide) (fun c_107 => ?_) (fun c_107 => ?_)
          · refine x_aload_n dX2_remove_118 rfl ?_
            refine y_getI fkX2_40 dX2_remove_119 (hk.1 0 (by decide)) (hk.2 0 (by decide)) rfl ?_
            rw [hg11]
            refine x_iload_n dX2_remove_122 rfl ?_
            refine x_icmp_le 136 dX2_remove_123 (by decide) (fun c_123 => ?_) (fun c_123 => ?_)
            · exact y_vret dX2_remove_136 rfl (rfl)
            · exact absurd (Int32.not_lt.mp c2) c_123
          · exact absurd c_107 c1
        · refine RM_goG hR hV ht (fun k k1 k2 => ?_) ?_ ?_ ?_ (fun c a1 a2 j hj => ?_)
          · rw [updM_at, if_neg (by omega), rm_o]
          · rw [updM_at, if_pos ⟨rfl, rfl⟩, rm_o]
          · rw [hg11]
            rcases r11 with ⟨q1, q2⟩ | ⟨q1, q2⟩
            · left
              refine ⟨q1, ?_⟩
              unfold goS
              rw [if_neg e9, if_neg, q2]
              rw [q2]
              intro z
              exact absurd (Int32.lt_of_le_of_lt (nI_pos' (n := t) (by omega)) z) (by decide)
            · right
              have hg3 : goS V t = V 9 := by unfold goS; rw [if_neg e9, if_neg (by rw [← q1]; exact c2)]
              refine ⟨by rw [hg3]; exact q1, ?_⟩
              rcases hgs with z | z
              · rw [hg3] at z
                obtain ⟨s, hs, he⟩ := vp_in_of q2 (by omega)
                rw [he] at z
                exact absurd z (m4_nI (by omega))
              · exact z
          · exact ⟨by rw [updM_ne (by omega), rm_ne (by omega)], by rw [updM_ne (by omega), rm_ne (by omega)]⟩
          · rw [updM_ne (by omega)]
            exact hrow 0 0 c a1 a2 j hj
  obtain ⟨M1, s1, p1, p2⟩ := key
  have h := y_remove_loop hk hR hV (t := t) (by omega) s1 (nT V + 1) t (by omega) (by omega) (by omega)
  rw [rm_0] at h
  refine ⟨M1, ?_, p1, p2⟩
  skip
  refine x_iload_n dX2_remove_0 rfl ?_
  refine x_istore_n dX2_remove_1 (by decide) rfl ?_
  exact h
