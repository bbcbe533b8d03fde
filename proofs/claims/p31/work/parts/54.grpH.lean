theorem y_renew {o : Nat} (hk : IsMk o) {M : Mem} {V : Row} (hR : RM M o V) (hV : WF V) {j : Nat} (hj : j < nT V) : ∃ M' : Mem, Y 4 mX2_renewWare 0 (lent 2 [.ref o, .int (nI j)]) [] M none M' ∧ RM M' o (rnV V j) ∧ FrO o M M' := by
  have h7 := b6 hV hj
  by_cases hz : dl V j = 0
  · have hz2 := dl_z.mp hz
    refine ⟨mwM (inc M o 12) o j, ?_, by simp only [rnV, if_pos hz]; exact RM_renew hR hj, (FrO.up (by omega)).tr FrO.mw⟩
    skip
    refine x_aload_n dX2_renewWare_0 rfl ?_
    refine x_iload_n dX2_renewWare_1 rfl ?_
    refine y_callV (as := [_]) okX2_hasSoundWare lkX2_93 dX2_renewWare_2 rfl (hk.1 0 (by decide)) (hk.2 0 (by decide)) (y_hasSound hk hR hV hj) (by omega) rfl (by simp [Value.category]) (Nat.le_of_ble_eq_true rfl) rfl rfl (cat8 rfl) ?_
    refine x_if_eq 9 dX2_renewWare_5 (by decide) (fun c_5 => ?_) (fun c_5 => ?_)
    · refine x_aload_n dX2_renewWare_9 rfl ?_
      refine x_iload_n dX2_renewWare_10 rfl ?_
      refine y_callV (as := [_]) okX2_hasWare lkX2_90 dX2_renewWare_11 rfl (hk.1 0 (by decide)) (hk.2 0 (by decide)) (y_hasWare hk hR hV hj) (by omega) rfl (by simp [Value.category]) (Nat.le_of_ble_eq_true rfl) rfl rfl (cat8 rfl) ?_
      refine x_if_eq 27 dX2_renewWare_14 (by decide) (fun c_14 => ?_) (fun c_14 => ?_)
      · exact absurd c_14 (by decide)
      · refine x_aload_n dX2_renewWare_17 rfl ?_
        refine x_dup_r dX2_renewWare_18 ?_
        refine y_getI fkX2_67 dX2_renewWare_19 (hk.1 0 (by decide)) (hk.2 0 (by decide)) rfl ?_
        refine x_iconstv (v := 1) dX2_renewWare_22 (by decide) ?_
        refine x_iadd dX2_renewWare_23 ?_
        refine y_putI fkX2_67 dX2_renewWare_24 (hk.1 0 (by decide)) (hk.2 0 (by decide)) rfl rfl rfl rfl ?_
        refine x_aload_n dX2_renewWare_27 rfl ?_
        refine x_iload_n dX2_renewWare_28 rfl ?_
        refine y_callV (as := [_]) okX2_makeWare lkX2_83 dX2_renewWare_29 rfl (hk.1 0 (by decide)) (hk.2 0 (by decide)) (y_makeWare hk h7) (by omega) rfl (by simp [Value.category]) (Nat.le_of_ble_eq_true rfl) rfl rfl (cat8 rfl) ?_
        exact y_vret dX2_renewWare_32 rfl (rfl)
    · exact absurd (b2i_z.mpr (decide_eq_false hz2)) c_5
  · have hz2 : 0 < dli V j := Classical.not_not.mp (fun q => hz (dl_z.mpr q))
    refine ⟨M, ?_, by simp only [rnV, if_neg hz]; exact hR, FrO.rf⟩
    skip
    refine x_aload_n dX2_renewWare_0 rfl ?_
    refine x_iload_n dX2_renewWare_1 rfl ?_
    refine y_callV (as := [_]) okX2_hasSoundWare lkX2_93 dX2_renewWare_2 rfl (hk.1 0 (by decide)) (hk.2 0 (by decide)) (y_hasSound hk hR hV hj) (by omega) rfl (by simp [Value.category]) (Nat.le_of_ble_eq_true rfl) rfl rfl (cat8 rfl) ?_
    refine x_if_eq 9 dX2_renewWare_5 (by decide) (fun c_5 => ?_) (fun c_5 => ?_)
    · exact absurd (decide_eq_true hz2) (by rw [b2i_z.mp c_5]; decide)
    · exact y_vret dX2_renewWare_8 rfl (rfl)
theorem y_drawLot {o : Nat} (hk : IsMk o) {M : Mem} {V : Row} (hR : RM M o V) (hV : WF V) : ∃ M' : Mem, Y 1 mX2_drawLot 0 (lent 3 [.ref o]) [] M none M' ∧ RM M' o (pd4 (pd3 V)) ∧ FrO o M M' := by
  have hR0 := hR
  obtain ⟨⟨r7, r8, r9, r10, r11, r12, r13, r14, r15, r2⟩, rk, rt⟩ := hR0
  obtain ⟨hn1, hn2⟩ := WF_n hV
  have hR1 := RM_lot (x := lotx (V 8)) hR
  have hV1 := WF_lot hV (lot_in hV.2.2.2.2.1)
  have e8 : pd3 V 8 = lotx (V 8) := by unfold pd3; exact pk_us
  have e1 : pd3 V 1 = V 1 := by unfold pd3; exact pk_un (by omega)
  have hp : pd4 (pd3 V) = upd (pd3 V) 9 (if shx (pd3 V) < V 1 then shx (pd3 V) else -4) := by
    unfold pd4 shx
    rw [e1]
  have hsx : rem32 (lotx (V 8)) (V 1 + 1) = shx (pd3 V) := by unfold shx; rw [e8, e1]
  have hg7 : M o 7 + 1 = V 1 + 1 := by rw [r7]
  have hd0 : ¬ M o 7 + 1 = 0 := by rw [r7, hn2, nI_1]; exact nI_ne0 (by omega) (by omega)
  have hle : ¬ M o 7 + 1 ≤ 0 := by rw [r7, hn2, nI_1]; exact nI_nle (by omega) (by omega)
  have hlx : updM M o 10 (421 * M o 10 + 1663 - (421 * M o 10 + 1663) / 10000 * 10000) = updM M o 10 (lotx (V 8)) := by rw [r10]; rfl
  have hu7 : updM M o 10 (lotx (V 8)) o 7 = M o 7 := by simp [updM]
  have hu10 : updM M o 10 (lotx (V 8)) o 10 = lotx (V 8) := by simp [updM]
  have hrm : lotx (V 8) - lotx (V 8) / (M o 7 + 1) * (M o 7 + 1) = shx (pd3 V) := by rw [hg7, ← hsx]; rfl
  have hhas := y_has hk hR1 hV1 (t := shx (pd3 V))
  rcases sh_cases hV1 with ⟨c1, c2, c3⟩ | ⟨c1, c2⟩
  · rw [show hasB (upd V 8 (lotx (V 8))) (shx (pd3 V)) = true from c1] at hhas
    have c2 : shx (pd3 V) < V 1 := by rw [← e1]; exact c2
    refine ⟨updM (updM M o 10 (lotx (V 8))) o 11 (shx (pd3 V)), ?_, ?_, (FrO.up (by omega)).tr (FrO.up (by omega))⟩
    · skip
      refine x_aload_n dX2_drawLot_0 rfl ?_
      refine x_sipushv (v := 421) dX2_drawLot_1 (by decide) ?_
      refine x_aload_n dX2_drawLot_4 rfl ?_
      refine y_getI fkX2_37 dX2_drawLot_5 (hk.1 0 (by decide)) (hk.2 0 (by decide)) rfl ?_
      refine x_imul dX2_drawLot_8 ?_
      refine x_sipushv (v := 1663) dX2_drawLot_9 (by decide) ?_
      refine x_iadd dX2_drawLot_12 ?_
      refine x_sipushv (v := 10000) dX2_drawLot_13 (by decide) ?_
      refine x_irem (by decide) dX2_drawLot_16 ?_
      refine y_putI fkX2_37 dX2_drawLot_17 (hk.1 0 (by decide)) (hk.2 0 (by decide)) rfl rfl rfl rfl ?_
      rw [hlx]
      refine x_aload_n dX2_drawLot_20 rfl ?_
      refine y_getI fkX2_61 dX2_drawLot_21 (hk.1 0 (by decide)) (hk.2 0 (by decide)) rfl ?_
      rw [hu7]
      refine x_iconstv (v := 1) dX2_drawLot_24 (by decide) ?_
      refine x_iadd dX2_drawLot_25 ?_
      refine x_istore_n dX2_drawLot_26 (by decide) rfl ?_
      refine x_iload_n dX2_drawLot_27 rfl ?_
      refine x_if_le 40 dX2_drawLot_28 (by decide) (fun c_28 => ?_) (fun c_28 => ?_)
      · exact absurd c_28 hle
      · refine x_aload_n dX2_drawLot_31 rfl ?_
        refine y_getI fkX2_37 dX2_drawLot_32 (hk.1 0 (by decide)) (hk.2 0 (by decide)) rfl ?_
        rw [hu10]
        refine x_iload_n dX2_drawLot_35 rfl ?_
        refine x_irem hd0 dX2_drawLot_36 ?_
        rw [hrm]
        refine x_goto 44 dX2_drawLot_37 (by decide) ?_
        refine x_istore_n dX2_drawLot_44 (by decide) rfl ?_
        refine x_aload_n dX2_drawLot_45 rfl ?_
        refine x_aload_n dX2_drawLot_46 rfl ?_
        refine x_iload_n dX2_drawLot_47 rfl ?_
        refine y_callV (as := [_]) okX2_has lkX2_79 dX2_drawLot_48 rfl (hk.1 0 (by decide)) (hk.2 0 (by decide)) (hhas) (by omega) rfl (by simp [Value.category]) (Nat.le_of_ble_eq_true rfl) rfl rfl (cat8 rfl) ?_
        refine x_if_eq 58 dX2_drawLot_51 (by decide) (fun c_51 => ?_) (fun c_51 => ?_)
        · exact absurd c_51 (by decide)
        · refine x_iload_n dX2_drawLot_54 rfl ?_
          refine x_goto 59 dX2_drawLot_55 (by decide) ?_
          refine y_putI fkX2_40 dX2_drawLot_59 (hk.1 0 (by decide)) (hk.2 0 (by decide)) rfl rfl rfl rfl ?_
          exact y_vret dX2_drawLot_62 rfl (rfl)
    · rw [hp, if_pos c2]
      exact RM_shut hR1 (Or.inr ⟨rfl, c3⟩)
  · rw [show hasB (upd V 8 (lotx (V 8))) (shx (pd3 V)) = false from c1] at hhas
    have c2 : ¬ shx (pd3 V) < V 1 := by rw [← e1]; exact c2
    refine ⟨updM (updM M o 10 (lotx (V 8))) o 11 (-1), ?_, ?_, (FrO.up (by omega)).tr (FrO.up (by omega))⟩
    · skip
      refine x_aload_n dX2_drawLot_0 rfl ?_
      refine x_sipushv (v := 421) dX2_drawLot_1 (by decide) ?_
      refine x_aload_n dX2_drawLot_4 rfl ?_
      refine y_getI fkX2_37 dX2_drawLot_5 (hk.1 0 (by decide)) (hk.2 0 (by decide)) rfl ?_
      refine x_imul dX2_drawLot_8 ?_
      refine x_sipushv (v := 1663) dX2_drawLot_9 (by decide) ?_
      refine x_iadd dX2_drawLot_12 ?_
      refine x_sipushv (v := 10000) dX2_drawLot_13 (by decide) ?_
      refine x_irem (by decide) dX2_drawLot_16 ?_
      refine y_putI fkX2_37 dX2_drawLot_17 (hk.1 0 (by decide)) (hk.2 0 (by decide)) rfl rfl rfl rfl ?_
      rw [hlx]
      refine x_aload_n dX2_drawLot_20 rfl ?_
      refine y_getI fkX2_61 dX2_drawLot_21 (hk.1 0 (by decide)) (hk.2 0 (by decide)) rfl ?_
      rw [hu7]
      refine x_iconstv (v := 1) dX2_drawLot_24 (by decide) ?_
      refine x_iadd dX2_drawLot_25 ?_
      refine x_istore_n dX2_drawLot_26 (by decide) rfl ?_
      refine x_iload_n dX2_drawLot_27 rfl ?_
      refine x_if_le 40 dX2_drawLot_28 (by decide) (fun c_28 => ?_) (fun c_28 => ?_)
      · exact absurd c_28 hle
      · refine x_aload_n dX2_drawLot_31 rfl ?_
        refine y_getI fkX2_37 dX2_drawLot_32 (hk.1 0 (by decide)) (hk.2 0 (by decide)) rfl ?_
        rw [hu10]
        refine x_iload_n dX2_drawLot_35 rfl ?_
        refine x_irem hd0 dX2_drawLot_36 ?_
        rw [hrm]
        refine x_goto 44 dX2_drawLot_37 (by decide) ?_
        refine x_istore_n dX2_drawLot_44 (by decide) rfl ?_
        refine x_aload_n dX2_drawLot_45 rfl ?_
        refine x_aload_n dX2_drawLot_46 rfl ?_
        refine x_iload_n dX2_drawLot_47 rfl ?_
        refine y_callV (as := [_]) okX2_has lkX2_79 dX2_drawLot_48 rfl (hk.1 0 (by decide)) (hk.2 0 (by decide)) (hhas) (by omega) rfl (by simp [Value.category]) (Nat.le_of_ble_eq_true rfl) rfl rfl (cat8 rfl) ?_
        refine x_if_eq 58 dX2_drawLot_51 (by decide) (fun c_51 => ?_) (fun c_51 => ?_)
        · refine x_iconstv (v := -1) dX2_drawLot_58 (by decide) ?_
          refine y_putI fkX2_40 dX2_drawLot_59 (hk.1 0 (by decide)) (hk.2 0 (by decide)) rfl rfl rfl rfl ?_
          exact y_vret dX2_drawLot_62 rfl (rfl)
        · exact absurd rfl c_51
    · rw [hp, if_neg c2]
      exact RM_shut hR1 (Or.inl ⟨rfl, rfl⟩)
theorem WF_pass {V : Row} (hV : WF V) : WF (pd4 (pd3 V)) := by
  have hV1 := WF_lot hV (lot_in hV.2.2.2.2.1)
  have e1 : pd3 V 1 = V 1 := by unfold pd3; exact pk_un (by omega)
  unfold pd4
  refine WF_shut hV1 ?_
  rcases sh_cases hV1 with ⟨c1, c2, c3⟩ | ⟨c1, c2⟩
  · right
    rw [show rem32 (pd3 V 8) (pd3 V 1 + 1) = shx (pd3 V) from rfl, if_pos (show shx (pd3 V) < pd3 V 1 from c2)]
    exact c3
  · left
    rw [show rem32 (pd3 V 8) (pd3 V 1 + 1) = shx (pd3 V) from rfl, if_neg (show ¬ shx (pd3 V) < pd3 V 1 from c2)]
theorem nT_pass {V : Row} : nT (passV V) = nT V := by
  show nT (pd4 (pd3 (qV V (nT V)))) = nT V
  unfold pd4 pd3
  rw [nT_upd (by omega), nT_upd (by omega), nT_q]
theorem WF_passV {V : Row} (hV : Good V) : WF (passV V) := WF_pass (WF_q hV (Nat.le_refl _))
theorem pd43 {W : Row} {i : Nat} (h : i ≠ 8) (h9 : i ≠ 9) : pd4 (pd3 W) i = W i := by
  unfold pd4 pd3
  rw [pk_un h9, pk_un h]
theorem pl_3 {V : Row} : ∀ i, (pl V i).1 3 = V 3
  | 0 => by simp [pl, upd]
  | i + 1 => by
    rw [pl]
    have ih := pl_3 (V := V) i
    split
    · simp only [ps2, ps1, upd]
      rw [if_neg (by omega), if_neg (by omega), if_neg (by omega)]
      exact ih
    · simp only [ps1, upd]
      rw [if_neg (by omega)]
      exact ih
theorem qV_3 {V : Row} {i : Nat} : qV V i 3 - V 3 = (pl V i).2 := by
  simp only [qV, pd2, pd1, upd]
  simp
  rw [pl_3]
  grind
theorem y_passDay_loop {o : Nat} (hk : IsMk o) {V : Row} (hG : Good V) {bf : Int32} : ∀ (fu i : Nat) (M : Mem), i ≤ nT V → nT V - i < fu → RM M o (qV V i) → ∃ M' : Mem, Y 5 mX2_passDay 17 [some (.ref o), some (.int bf), some (.int (nI i))] [] M (some (.int (qV V (nT V) 3 - bf))) M' ∧ RM M' o (passV V) ∧ FrO o M M' := by
  have hV := hG.1
  obtain ⟨hn1, hn2⟩ := WF_n hV
  intro fu
  induction fu with
  | zero => intro i M h1 h2; omega
  | succ fu ih =>
    intro i M h1 h2 rA
    have hG9 := Good_q hG i h1
    have hV9 := hG9.1
    by_cases hlt : i < nT V
    · have r1 := RM_age (i := i) rA
      have hVa := ps1_in (i := i) hG9
      have hni : i < nT (ps1 (qV V i) i) := by unfold ps1; rw [nT_upd (by omega), nT_q]; exact hlt
      obtain ⟨M2, s2, r2, f2⟩ := y_renew hk r1 hVa hni
      rw [← qV_s] at r2
      obtain ⟨M3, s3, r3, f3⟩ := ih (i + 1) M2 (by omega) (by omega) r2
      refine ⟨M3, ?_, r3, ((FrO.up (by omega)).tr f2).tr f3⟩
      skip
      refine x_iload_n dX2_passDay_17 rfl ?_
      refine x_aload_n dX2_passDay_18 rfl ?_
      refine y_getI fkX2_61 dX2_passDay_19 (hk.1 0 (by decide)) (hk.2 0 (by decide)) rfl ?_
      refine x_icmp_ge 46 dX2_passDay_22 (by decide) (fun c_22 => ?_) (fun c_22 => ?_)
      · exact absurd (lp_eq hV9 rA.1.1 (by rw [nT_q]; omega) c_22) (by rw [nT_q]; omega)
      · refine x_aload_n dX2_passDay_25 rfl ?_
        refine y_getR fkX2_21 dX2_passDay_26 (hk.1 0 (by decide)) (hk.2 0 (by decide)) rfl ?_
        refine x_iload_n dX2_passDay_29 rfl ?_
        refine x_dup2_ir dX2_passDay_30 ?_
        refine y_ialdn (j := i) dX2_passDay_31 (hk.1 4 (by decide)) (hk.2 4 (by decide)) (ixN (by omega)) (by omega) ?_
        refine x_iconstv (v := 1) dX2_passDay_32 (by decide) ?_
        refine x_iadd dX2_passDay_33 ?_
        refine y_iastn (j := i) dX2_passDay_34 (hk.1 4 (by decide)) (hk.2 4 (by decide)) (ixN (by omega)) (by omega) ?_
        refine x_aload_n dX2_passDay_35 rfl ?_
        refine x_iload_n dX2_passDay_36 rfl ?_
        refine y_callV (as := [_]) okX2_renewWare lkX2_120 dX2_passDay_37 rfl (hk.1 0 (by decide)) (hk.2 0 (by decide)) (s2) (by omega) rfl (by simp [Value.category]) (Nat.le_of_ble_eq_true rfl) rfl rfl (cat8 rfl) ?_
        refine x_iincv (v := 1) dX2_passDay_40 rfl (by decide) rfl (by decide) ?_
        refine x_goto 17 dX2_passDay_43 (by decide) ?_
        rw [nI_1]
        exact s3
    · have he : i = nT V := by omega
      subst he
      obtain ⟨M2, s2, r2, f2⟩ := y_drawLot hk rA hV9
      have h12 : M2 o 12 = qV V (nT V) 3 := by rw [r2.1.2.2.2.2.2.1, pd43 (by omega) (by omega)]
      refine ⟨M2, ?_, r2, f2⟩
      skip
      refine x_iload_n dX2_passDay_17 rfl ?_
      refine x_aload_n dX2_passDay_18 rfl ?_
      refine y_getI fkX2_61 dX2_passDay_19 (hk.1 0 (by decide)) (hk.2 0 (by decide)) rfl ?_
      refine x_icmp_ge 46 dX2_passDay_22 (by decide) (fun c_22 => ?_) (fun c_22 => ?_)
      · refine x_aload_n dX2_passDay_46 rfl ?_
        refine y_callV0 okX2_drawLot lkX2_123 dX2_passDay_47 (hk.1 0 (by decide)) (hk.2 0 (by decide)) (s2) (by omega) (Nat.le_of_ble_eq_true rfl) rfl rfl (cat8 rfl) ?_
        refine x_aload_n dX2_passDay_50 rfl ?_
        refine y_getI fkX2_67 dX2_passDay_51 (hk.1 0 (by decide)) (hk.2 0 (by decide)) rfl ?_
        refine x_iload_n dX2_passDay_54 rfl ?_
        refine x_isub dX2_passDay_55 ?_
        exact y_ret dX2_passDay_56 rfl (rfl) (by rw [h12]) (rfl)
      · exact absurd (lp_lt hV9 rA.1.1 (by rw [nT_q]; omega) c_22) (by rw [nT_q]; omega)
theorem y_passDay {o : Nat} (hk : IsMk o) {M : Mem} {V : Row} (hR : RM M o V) (hG : Good V) : ∃ M' : Mem, Y 5 mX2_passDay 0 (lent 3 [.ref o]) [] M (some (.int (thrV V))) M' ∧ RM M' o (passV V) ∧ FrO o M M' := by
  have hV := hG.1
  have hR0 := hR
  obtain ⟨⟨r7, r8, r9, r10, r11, r12, r13, r14, r15, r2⟩, rk, rt⟩ := hR0
  obtain ⟨hn1, hn2⟩ := WF_n hV
  have hq0 : RM (inc M o 9) o (qV V 0) := by
    have e : qV V 0 = upd (upd (upd V 0 (V 0 + 1)) 3 (V 3 + 0)) 4 (V 4 + 0) := by
      simp [qV, pl, pd2, pd1, upd]
    have e2 : qV V 0 = upd V 0 (V 0 + 1) := by
      rw [e]
      funext x
      simp only [upd]
      grind
    rw [e2]
    have hn : nT (upd V 0 (V 0 + 1)) = nT V := nT_upd (by omega)
    refine ⟨?_, fun j hj => ?_, fun j hj => ?_⟩
    · rw [hn]
      simp only [inc, updM, upd, mSum]
      simp only [mSum] at r2
      grind
    · have := rk j hj
      simp only [inc, updM, upd]
      grind
    · rw [hn] at hj
      have := rt j hj
      simp only [inc, updM, upd]
      grind
  obtain ⟨M1, s1, r1, f1⟩ := y_passDay_loop hk hG (bf := M o 12) (nT V + 1) 0 _ (by omega) (by omega) hq0
  rw [r12, qV_3] at s1
  refine ⟨M1, ?_, r1, (FrO.up (by omega)).tr f1⟩
  skip
  refine x_aload_n dX2_passDay_0 rfl ?_
  refine y_getI fkX2_67 dX2_passDay_1 (hk.1 0 (by decide)) (hk.2 0 (by decide)) rfl ?_
  rw [r12]
  refine x_istore_n dX2_passDay_4 (by decide) rfl ?_
  refine x_aload_n dX2_passDay_5 rfl ?_
  refine x_dup_r dX2_passDay_6 ?_
  refine y_getI fkX2_64 dX2_passDay_7 (hk.1 0 (by decide)) (hk.2 0 (by decide)) rfl ?_
  refine x_iconstv (v := 1) dX2_passDay_10 (by decide) ?_
  refine x_iadd dX2_passDay_11 ?_
  refine y_putI fkX2_64 dX2_passDay_12 (hk.1 0 (by decide)) (hk.2 0 (by decide)) rfl rfl rfl rfl ?_
  refine x_iconstv (v := 0) dX2_passDay_15 (by decide) ?_
  refine x_istore_n dX2_passDay_16 (by decide) rfl ?_
  exact s1
theorem y_doBarter_loop {o : Nat} (hk : IsMk o) (ho : o + 9 < 81) {V : Row} (hV : WF V) {g : Nat → Option Nat} (hg : ∀ i q, i < nT V → g i = some q → q < nT V) : ∀ (fu i : Nat) (M : Mem), i ≤ nT V → nT V - i < fu → RM M o (dbV V g i) → (∀ i, i < nT V → M 81 i = gI (-1) (g i)) → (∀ j, j < nT V → M (o + 8) j = V (24 + 5 * j) ∧ M (o + 9) j = V (25 + 5 * j)) → ∃ M' : Mem, Y 2 mX2_doBarter 6 [some (.ref o), some (.ref 81), some (.int (nI i))] [] M none M' ∧ RM M' o (dbV V g (nT V)) ∧ FrO o M M' := by
  obtain ⟨hn1, hn2⟩ := WF_n hV
  intro fu
  induction fu with
  | zero => intro i M h1 h2; omega
  | succ fu ih =>
    intro i M h1 h2 rA hgi hwb
    have hV9 := WF_db hV hg i h1
    by_cases hlt : i < nT V
    · have hstep : ∃ M2 : Mem, Y 1 mX2_takeWare 0 (lent 4 [.ref o, .int (nI i), .int (gI (-1) (g i))]) [] M none M2 ∧ RM M2 o (dbV V g (i + 1)) ∧ (∀ c, c ≠ o + 2 → c ≠ o + 3 → c ≠ o + 4 → c ≠ o + 5 → c ≠ o + 7 → M2 c = M c) := by
        rw [dbV]
        cases hq : g i with
        | none => exact ⟨M, y_takeWareN hk rA hV9 (by rfl) (by rw [nT_db]; exact hlt), rA, fun _ _ _ _ _ _ => rfl⟩
        | some q =>
          have hq2 := hg i q hlt hq
          have e1 : M (o + 8) q = nI (kd V q) := by rw [(hwb q hq2).1]; exact kd_nI hV hq2
          have s := y_takeWare hk rA hV9 (t := i) (g := q) (by rw [nT_db]; exact hlt) (by rw [nT_db]; exact hq2) (kd_lt hV hq2) e1
          rw [(hwb q hq2).2] at s
          exact ⟨_, s, RM_tw rA hV9 (by rw [nT_db]; exact hlt) (kd_lt hV hq2), fun c c1 c2 c3 c4 c5 => tw_ne ⟨c1, c2, c3, c4, c5⟩⟩
      obtain ⟨M2, s2, r2, f2⟩ := hstep
      obtain ⟨M3, s3, r3, f3⟩ := ih (i + 1) M2 (by omega) (by omega) r2 (fun j hj => by rw [f2 81 (by omega) (by omega) (by omega) (by omega) (by omega)]; exact hgi j hj) (fun j hj => by rw [f2 (o + 8) (by omega) (by omega) (by omega) (by omega) (by omega), f2 (o + 9) (by omega) (by omega) (by omega) (by omega) (by omega)]; exact hwb j hj)
      refine ⟨M3, ?_, r3, FrO.tr (show FrO o M M2 from fun c hc => f2 c (by omega) (by omega) (by omega) (by omega) (by omega)) f3⟩
      skip
      refine x_iload_n dX2_doBarter_6 rfl ?_
      refine x_aload_n dX2_doBarter_7 rfl ?_
      refine y_getI fkX2_61 dX2_doBarter_8 (hk.1 0 (by decide)) (hk.2 0 (by decide)) rfl ?_
      refine x_icmp_ge 34 dX2_doBarter_11 (by decide) (fun c_11 => ?_) (fun c_11 => ?_)
      · exact absurd (lp_eq hV9 rA.1.1 (by rw [nT_db]; omega) c_11) (by rw [nT_db]; omega)
      · refine x_iload_n dX2_doBarter_14 rfl ?_
        refine x_aload_n dX2_doBarter_15 rfl ?_
        refine y_alen (by decide) dX2_doBarter_16 (by decide) rfl ?_
        refine x_icmp_ge 34 dX2_doBarter_17 (by decide) (fun c_17 => ?_) (fun c_17 => ?_)
        · exact absurd c_17 (nI_ge (a := i) (b := 7) (by omega) (by decide))
        · refine x_aload_n dX2_doBarter_20 rfl ?_
          refine x_iload_n dX2_doBarter_21 rfl ?_
          refine x_aload_n dX2_doBarter_22 rfl ?_
          refine x_iload_n dX2_doBarter_23 rfl ?_
          refine y_ialdn (j := i) dX2_doBarter_24 (by decide) rfl (ixN (by omega)) (by omega) ?_
          rw [hgi i hlt]
          refine y_callV (as := [_, _]) okX2_takeWare lkX2_116 dX2_doBarter_25 rfl (hk.1 0 (by decide)) (hk.2 0 (by decide)) (s2) (by omega) rfl (by simp [Value.category]) (Nat.le_of_ble_eq_true rfl) rfl rfl (cat8 rfl) ?_
          refine x_iincv (v := 1) dX2_doBarter_28 rfl (by decide) rfl (by decide) ?_
          refine x_goto 6 dX2_doBarter_31 (by decide) ?_
          rw [nI_1]
          exact s3
    · have he : i = nT V := by omega
      subst he
      refine ⟨M, ?_, rA, FrO.rf⟩
      skip
      refine x_iload_n dX2_doBarter_6 rfl ?_
      refine x_aload_n dX2_doBarter_7 rfl ?_
      refine y_getI fkX2_61 dX2_doBarter_8 (hk.1 0 (by decide)) (hk.2 0 (by decide)) rfl ?_
      refine x_icmp_ge 34 dX2_doBarter_11 (by decide) (fun c_11 => ?_) (fun c_11 => ?_)
      · exact y_vret dX2_doBarter_34 rfl (rfl)
      · exact absurd (lp_lt hV9 rA.1.1 (by rw [nT_db]; omega) c_11) (by rw [nT_db]; omega)
theorem y_doBarter {o : Nat} (hk : IsMk o) {M : Mem} {V : Row} (hR : RM M o V) (hV : WF V) (ho : o + 9 < 81) {g : Nat → Option Nat} (hg : ∀ i q, i < nT V → g i = some q → q < nT V) (hgi : ∀ i, i < nT V → M 81 i = gI (-1) (g i)) : ∃ M' : Mem, Y 2 mX2_doBarter 0 (lent 3 [.ref o, .ref 81]) [] M none M' ∧ RM M' o (dbV V g (nT V)) ∧ FrO o M M' := by
  have hR0 := hR
  obtain ⟨⟨r7, r8, r9, r10, r11, r12, r13, r14, r15, r2⟩, rk, rt⟩ := hR0
  obtain ⟨hn1, hn2⟩ := WF_n hV
  obtain ⟨M1, s1, r1, f1⟩ := y_doBarter_loop hk ho hV hg (nT V + 1) 0 (kwM M o) (by omega) (by omega) (RM_kw hR) (fun j hj => by rw [kw_ne (by omega)]; exact hgi j hj) (fun j hj => by rw [kw_8 (by omega), kw_9 (by omega)]; exact ⟨(rt j hj).2.2.1, (rt j hj).2.2.2.1⟩)
  refine ⟨M1, ?_, r1, FrO.kw.tr f1⟩
  skip
  refine x_aload_n dX2_doBarter_0 rfl ?_
  refine y_callV0 okX2_keepWares lkX2_113 dX2_doBarter_1 (hk.1 0 (by decide)) (hk.2 0 (by decide)) (y_keepWares hk) (by omega) (Nat.le_of_ble_eq_true rfl) rfl rfl (cat8 rfl) ?_
  refine x_iconstv (v := 0) dX2_doBarter_4 (by decide) ?_
  refine x_istore_n dX2_doBarter_5 (by decide) rfl ?_
  exact s1
