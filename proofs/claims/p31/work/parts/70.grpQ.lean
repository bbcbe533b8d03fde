theorem y_find_loop {o : Nat} (hk : IsMk o) (ho : o + 9 < 80) {V : Row} (hV : WF V) : ∀ (fu i : Nat) (M : Mem), i ≤ nT V → nT V - i < fu → RM M o V → M 80 3 = nI (nT V) → M 80 4 = V 7 → M 80 5 = -1 → (∀ t, t < i → M 82 t = gv V t) → ∃ M' : Mem, Y 17 mX4_findBest 32 [some (.ref 80), some (.ref o), some (.int (nI i))] [] M (some (.int (nI (bst V (cirN V)).1 - 1))) M' ∧ (∀ j, j < nT V → M' 81 j = gI (-1) ((bst V (cirN V)).2 j)) ∧ ∀ c, c ≠ 80 → c ≠ 81 → c ≠ 82 → c ≠ 83 → M' c = M c := by
  obtain ⟨hn1, hn2⟩ := WF_n hV
  obtain ⟨hc1, hc2, hc3⟩ := cir_ok hV
  intro fu
  induction fu with
  | zero => intro i M h1 h2; omega
  | succ fu ih =>
    intro i M h1 h2 hR h3 h4 h5 hg
    by_cases hlt : i < nT V
    · have hgv := y_giversOf hk hR hV hlt
      have hR2 : RM (updM M 82 i (gv V i)) o V := RM_congr (fun c a b => updM_ne (by omega)) hR
      obtain ⟨M3, s3, p3, q3⟩ := ih (i + 1) (updM M 82 i (gv V i)) (by omega) (by omega) hR2 (by rw [updM_ne (by decide)]; exact h3) (by rw [updM_ne (by decide)]; exact h4) (by rw [updM_ne (by decide)]; exact h5) (fun t ht => by
        by_cases hti : t = i
        · subst hti; simp [updM]
        · rw [updM_at, if_neg (by omega)]; exact hg t (by omega))
      refine ⟨M3, ?_, p3, fun c a b d e => (q3 c a b d e).trans (updM_ne d)⟩
      skip
      refine x_iload_n dX4_findBest_32 rfl ?_
      refine x_aload_n dX4_findBest_33 rfl ?_
      refine y_getI fkX4_36 dX4_findBest_34 (by decide) rfl rfl ?_
      rw [h3]
      refine x_icmp_ge 57 dX4_findBest_37 (by decide) (fun c_37 => ?_) (fun c_37 => ?_)
      · exact absurd c_37 (nI_ge hlt (by omega))
      · refine x_aload_n dX4_findBest_40 rfl ?_
        refine y_getR fkX4_15 dX4_findBest_41 (by decide) rfl rfl ?_
        refine x_iload_n dX4_findBest_44 rfl ?_
        refine x_aload_n dX4_findBest_45 rfl ?_
        refine x_iload_n dX4_findBest_46 rfl ?_
        refine y_callV (as := [_]) okX2_giversOf lkX4_44 dX4_findBest_47 rfl (hk.1 0 (by decide)) (hk.2 0 (by decide)) (hgv) (by omega) rfl (by simp [Value.category]) (Nat.le_of_ble_eq_true rfl) rfl rfl (cat8 rfl) ?_
        refine y_iastn (j := i) dX4_findBest_50 (by decide) rfl (ixN (by omega)) (by omega) ?_
        refine x_iincv (v := 1) dX4_findBest_51 rfl (by decide) rfl (by decide) ?_
        refine x_goto 32 dX4_findBest_54 (by decide) ?_
        rw [nI_1]
        exact s3
    · have he : i = nT V := by omega
      subst he
      have hS : SMc M (canV V) (nT V) (cirN V) := ⟨h3, h4.trans hc1, fun t ht c hc => by rw [hg t ht]; exact bit_gv hV hc, hn1, hc2, hc3⟩
      have hRp : Rp M (nT V) (fun _ => none) 0 0 (0, fun _ => none) := ⟨fun j hj => by omega, fun c hc => by rw [bit_zero]; simp, by rw [h5]; rfl, fun h => by exact absurd h (Nat.lt_irrefl _), by simp⟩
      obtain ⟨M2, s2, f2⟩ := y_choose (L := cirN V) (n := nT V) (can := canV V) (fun t => can_irr t) (nT V) (fun _ => none) 0 (0, fun _ => none) M 0 (by omega) ⟨fun u g h => by omega, fun u v g h => by omega, fun u v h => by omega⟩ hS hRp
      rw [show DD (canV V) (nT V) (cirN V) (nT V) (fun _ => none) (0, fun _ => none) = bst V (cirN V) from rfl] at f2
      refine ⟨M2, ?_, f2.2.1 bst_pos, fun c a b d e => f2.2.2.2.2.1 c a b e⟩
      skip
      refine x_iload_n dX4_findBest_32 rfl ?_
      refine x_aload_n dX4_findBest_33 rfl ?_
      refine y_getI fkX4_36 dX4_findBest_34 (by decide) rfl rfl ?_
      rw [h3]
      refine x_icmp_ge 57 dX4_findBest_37 (by decide) (fun c_37 => ?_) (fun c_37 => ?_)
      · refine x_aload_n dX4_findBest_57 rfl ?_
        refine x_iconstv (v := 0) dX4_findBest_58 (by decide) ?_
        refine x_iconstv (v := 0) dX4_findBest_59 (by decide) ?_
        refine x_iconstv (v := 0) dX4_findBest_60 (by decide) ?_
        refine y_callV (as := [_, _, _]) okX4_chooseGiver lkX4_47 dX4_findBest_61 rfl (by decide) rfl ((s2.more (d' := 16) (by omega))) (by omega) rfl (by simp [Value.category]) (Nat.le_of_ble_eq_true rfl) rfl rfl (cat8 rfl) ?_
        refine x_aload_n dX4_findBest_64 rfl ?_
        refine y_getI fkX4_41 dX4_findBest_65 (by decide) rfl rfl ?_
        rw [f2.1]
        exact y_ret dX4_findBest_68 rfl (rfl) (rfl) (rfl)
      · exact absurd (nI_le (a := nT V) (b := nT V) (Nat.le_refl _) (by omega)) c_37
theorem y_findBest {o : Nat} (hk : IsMk o) {M : Mem} {V : Row} (hR : RM M o V) (hV : WF V) (ho : o + 9 < 80) : ∃ M' : Mem, Y 17 mX4_findBest 0 (lent 3 [.ref 80, .ref o]) [] M (some (.int (nI (bst V (cirN V)).1 - 1))) M' ∧ (∀ j, j < nT V → M' 81 j = gI (-1) ((bst V (cirN V)).2 j)) ∧ ∀ c, c ≠ 80 → c ≠ 81 → c ≠ 82 → c ≠ 83 → M' c = M c := by
  have hR0 := hR
  obtain ⟨⟨r7, r8, r9, r10, r11, r12, r13, r14, r15, r2⟩, rk, rt⟩ := hR0
  obtain ⟨hn1, hn2⟩ := WF_n hV
  have e0 : (if (7 : Int32) < M o 7 then 7 else M o 7) = nI (nT V) := by
    rw [r7, hn2]
    exact if_neg (nI_nlt (a := 7) (b := nT V) hn1 (by decide))
  have e1 : (if (0 : Int32) < nI (nT V) then nI (nT V) else 0) = nI (nT V) := by
    by_cases h : 0 < nT V
    · exact if_pos (nI_lt (a := 0) h (by omega))
    · have : nT V = 0 := by omega
      rw [this]
      rfl
  have hR2 : RM (updM (updM (updM M 80 3 (nI (nT V))) 80 4 (V 7)) 80 5 (-1)) o V := RM_congr (fun c a b => by rw [updM_ne (by omega), updM_ne (by omega), updM_ne (by omega)]) hR
  have e7 : updM M 80 3 (nI (nT V)) o 8 = V 7 := by rw [updM_ne (by omega)]; exact r8
  obtain ⟨M1, s1, p1, q1⟩ := y_find_loop hk ho hV (nT V + 1) 0 _ (by omega) (by omega) hR2 (by simp [updM]) (by simp [updM]) (by simp [updM]) (fun t ht => by omega)
  refine ⟨M1, ?_, p1, fun c a b d e => by rw [q1 c a b d e, updM_ne a, updM_ne a, updM_ne a]⟩
  skip
  refine x_aload_n dX4_findBest_0 rfl ?_
  refine x_iconstv (v := 0) dX4_findBest_1 (by decide) ?_
  refine x_aload_n dX4_findBest_2 rfl ?_
  refine y_getI fkX4_21 dX4_findBest_3 (hk.1 0 (by decide)) (hk.2 0 (by decide)) rfl ?_
  refine x_bipushv (v := 7) dX4_findBest_6 (by decide) ?_
  refine x_mmin lkX4_27 dX4_findBest_8 (by omega) (cat8 rfl) ?_
  rw [e0]
  refine x_mmax lkX4_33 dX4_findBest_11 (by omega) (cat8 rfl) ?_
  rw [e1]
  refine y_putI fkX4_36 dX4_findBest_14 (by decide) rfl rfl rfl rfl rfl ?_
  refine x_aload_n dX4_findBest_17 rfl ?_
  refine x_aload_n dX4_findBest_18 rfl ?_
  refine y_getI fkX4_37 dX4_findBest_19 (hk.1 0 (by decide)) (hk.2 0 (by decide)) rfl ?_
  rw [e7]
  refine y_putI fkX4_40 dX4_findBest_22 (by decide) rfl rfl rfl rfl rfl ?_
  refine x_aload_n dX4_findBest_25 rfl ?_
  refine x_iconstv (v := -1) dX4_findBest_26 (by decide) ?_
  refine y_putI fkX4_41 dX4_findBest_27 (by decide) rfl rfl rfl rfl rfl ?_
  refine x_iconstv (v := 0) dX4_findBest_30 (by decide) ?_
  refine x_istore_n dX4_findBest_31 (by decide) rfl ?_
  exact s1
