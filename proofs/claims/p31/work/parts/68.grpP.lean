theorem y_fits_loop {M : Mem} {n L t : Nat} {p : Asg} (hL : M 80 4 = nI L) (h7 : L ≤ 7) (ht : t < 7) (hp : ∀ j, j < t → M 83 j = gI (-1) (p j)) {l2 : Int32} : ∀ (k : Nat) (o : Option Nat), k ≤ L → (∀ x, o = some x → x < 7) → (∀ j x, j < t → p j = some x → x < 7) → Y 0 mX4_fitsInCircle 5 [some (.ref 80), some (.int (nI t)), some (.int l2), some (.int (gI (-1) o)), some (.int (nI (L + 1 - k)))] [] M (some (.int (b2i (fitB p t k o)))) M := by
  intro k
  induction k with
  | zero =>
    intro o hk ho hx
    rw [fitB]
    skip
    refine x_iload dX4_fitsInCircle_5 rfl ?_
    refine x_aload_n dX4_fitsInCircle_7 rfl ?_
    refine y_getI fkX4_40 dX4_fitsInCircle_8 (by decide) rfl rfl ?_
    rw [hL]
    refine x_icmp_gt 60 dX4_fitsInCircle_11 (by decide) (fun c_11 => ?_) (fun c_11 => ?_)
    · refine x_iconstv (v := 0) dX4_fitsInCircle_60 (by decide) ?_
      exact y_ret dX4_fitsInCircle_61 rfl (rfl) (rfl) (rfl)
    · exact absurd (nI_lt (a := L) (b := L + 1 - 0) (by omega) (by omega)) c_11
  | succ k ih =>
    intro o hk ho hx
    have hnl : ¬ nI L < nI (L + 1 - (k + 1)) := nI_nlt (by omega) (by omega)
    cases o with
    | none =>
      rw [fitB]
      have hg : gI (-1) none = -1 := rfl
      rw [hg]
      skip
      refine x_iload dX4_fitsInCircle_5 rfl ?_
      refine x_aload_n dX4_fitsInCircle_7 rfl ?_
      refine y_getI fkX4_40 dX4_fitsInCircle_8 (by decide) rfl rfl ?_
      rw [hL]
      refine x_icmp_gt 60 dX4_fitsInCircle_11 (by decide) (fun c_11 => ?_) (fun c_11 => ?_)
      · exact absurd c_11 hnl
      · refine x_iload_n dX4_fitsInCircle_14 rfl ?_
        refine x_iload_n dX4_fitsInCircle_15 rfl ?_
        refine x_icmp_ne 21 dX4_fitsInCircle_16 (by decide) (fun c_16 => ?_) (fun c_16 => ?_)
        · refine x_iload_n dX4_fitsInCircle_21 rfl ?_
          refine x_if_ge 27 dX4_fitsInCircle_22 (by decide) (fun c_22 => ?_) (fun c_22 => ?_)
          · exact absurd c_22 (by decide)
          · refine x_iconstv (v := 0) dX4_fitsInCircle_25 (by decide) ?_
            exact y_ret dX4_fitsInCircle_26 rfl (rfl) (rfl) (rfl)
        · exact absurd c_16.symm (m1_nI (by omega))
    | some x =>
      have hx7 := ho x rfl
      have hg : gI (-1) (some x) = nI x := rfl
      rw [hg]
      by_cases hxt : x = t
      · rw [show fitB p t (k + 1) (some x) = true from by rw [fitB, if_pos hxt]]
        subst hxt
        skip
        refine x_iload dX4_fitsInCircle_5 rfl ?_
        refine x_aload_n dX4_fitsInCircle_7 rfl ?_
        refine y_getI fkX4_40 dX4_fitsInCircle_8 (by decide) rfl rfl ?_
        rw [hL]
        refine x_icmp_gt 60 dX4_fitsInCircle_11 (by decide) (fun c_11 => ?_) (fun c_11 => ?_)
        · exact absurd c_11 hnl
        · refine x_iload_n dX4_fitsInCircle_14 rfl ?_
          refine x_iload_n dX4_fitsInCircle_15 rfl ?_
          refine x_icmp_ne 21 dX4_fitsInCircle_16 (by decide) (fun c_16 => ?_) (fun c_16 => ?_)
          · exact absurd rfl c_16
          · refine x_iconstv (v := 1) dX4_fitsInCircle_19 (by decide) ?_
            exact y_ret dX4_fitsInCircle_20 rfl (rfl) (rfl) (rfl)
      · have hne : ¬ nI x = nI t := fun q => hxt ((nI_eq (by omega) (by omega)).mp q)
        by_cases hlt : t < x
        · rw [show fitB p t (k + 1) (some x) = decide (0 < k) from by rw [fitB, if_neg hxt, if_pos hlt]]
          by_cases h0 : 0 < k
          · rw [decide_eq_true h0]
            skip
            refine x_iload dX4_fitsInCircle_5 rfl ?_
            refine x_aload_n dX4_fitsInCircle_7 rfl ?_
            refine y_getI fkX4_40 dX4_fitsInCircle_8 (by decide) rfl rfl ?_
            rw [hL]
            refine x_icmp_gt 60 dX4_fitsInCircle_11 (by decide) (fun c_11 => ?_) (fun c_11 => ?_)
            · exact absurd c_11 hnl
            · refine x_iload_n dX4_fitsInCircle_14 rfl ?_
              refine x_iload_n dX4_fitsInCircle_15 rfl ?_
              refine x_icmp_ne 21 dX4_fitsInCircle_16 (by decide) (fun c_16 => ?_) (fun c_16 => ?_)
              · refine x_iload_n dX4_fitsInCircle_21 rfl ?_
                refine x_if_ge 27 dX4_fitsInCircle_22 (by decide) (fun c_22 => ?_) (fun c_22 => ?_)
                · refine x_iload_n dX4_fitsInCircle_27 rfl ?_
                  refine x_iload_n dX4_fitsInCircle_28 rfl ?_
                  refine x_icmp_le 47 dX4_fitsInCircle_29 (by decide) (fun c_29 => ?_) (fun c_29 => ?_)
                  · exact absurd c_29 (nI_ge hlt (by omega))
                  · refine x_iload dX4_fitsInCircle_32 rfl ?_
                    refine x_aload_n dX4_fitsInCircle_34 rfl ?_
                    refine y_getI fkX4_40 dX4_fitsInCircle_35 (by decide) rfl rfl ?_
                    rw [hL]
                    refine x_icmp_ge 45 dX4_fitsInCircle_38 (by decide) (fun c_38 => ?_) (fun c_38 => ?_)
                    · exact absurd c_38 (nI_ge (by omega) (by omega))
                    · refine x_iconstv (v := 1) dX4_fitsInCircle_41 (by decide) ?_
                      refine x_goto 46 dX4_fitsInCircle_42 (by decide) ?_
                      exact y_ret dX4_fitsInCircle_46 rfl (rfl) (rfl) (rfl)
                · exact absurd (nI_pos' (by omega)) c_22
              · exact absurd c_16 hne
          · rw [decide_eq_false h0]
            skip
            refine x_iload dX4_fitsInCircle_5 rfl ?_
            refine x_aload_n dX4_fitsInCircle_7 rfl ?_
            refine y_getI fkX4_40 dX4_fitsInCircle_8 (by decide) rfl rfl ?_
            rw [hL]
            refine x_icmp_gt 60 dX4_fitsInCircle_11 (by decide) (fun c_11 => ?_) (fun c_11 => ?_)
            · exact absurd c_11 hnl
            · refine x_iload_n dX4_fitsInCircle_14 rfl ?_
              refine x_iload_n dX4_fitsInCircle_15 rfl ?_
              refine x_icmp_ne 21 dX4_fitsInCircle_16 (by decide) (fun c_16 => ?_) (fun c_16 => ?_)
              · refine x_iload_n dX4_fitsInCircle_21 rfl ?_
                refine x_if_ge 27 dX4_fitsInCircle_22 (by decide) (fun c_22 => ?_) (fun c_22 => ?_)
                · refine x_iload_n dX4_fitsInCircle_27 rfl ?_
                  refine x_iload_n dX4_fitsInCircle_28 rfl ?_
                  refine x_icmp_le 47 dX4_fitsInCircle_29 (by decide) (fun c_29 => ?_) (fun c_29 => ?_)
                  · exact absurd c_29 (nI_ge hlt (by omega))
                  · refine x_iload dX4_fitsInCircle_32 rfl ?_
                    refine x_aload_n dX4_fitsInCircle_34 rfl ?_
                    refine y_getI fkX4_40 dX4_fitsInCircle_35 (by decide) rfl rfl ?_
                    rw [hL]
                    refine x_icmp_ge 45 dX4_fitsInCircle_38 (by decide) (fun c_38 => ?_) (fun c_38 => ?_)
                    · refine x_iconstv (v := 0) dX4_fitsInCircle_45 (by decide) ?_
                      exact y_ret dX4_fitsInCircle_46 rfl (rfl) (rfl) (rfl)
                    · exact absurd (nI_le (by omega) (by omega)) c_38
                · exact absurd (nI_pos' (by omega)) c_22
              · exact absurd c_16 hne
        · rw [show fitB p t (k + 1) (some x) = fitB p t k (p x) from by rw [fitB, if_neg hxt, if_neg hlt]]
          have hi := ih (p x) (by omega) (fun y hy => hx x y (by omega) hy) hx
          have e1 : L + 1 - (k + 1) + 1 = L + 1 - k := by omega
          skip
          refine x_iload dX4_fitsInCircle_5 rfl ?_
          refine x_aload_n dX4_fitsInCircle_7 rfl ?_
          refine y_getI fkX4_40 dX4_fitsInCircle_8 (by decide) rfl rfl ?_
          rw [hL]
          refine x_icmp_gt 60 dX4_fitsInCircle_11 (by decide) (fun c_11 => ?_) (fun c_11 => ?_)
          · exact absurd c_11 hnl
          · refine x_iload_n dX4_fitsInCircle_14 rfl ?_
            refine x_iload_n dX4_fitsInCircle_15 rfl ?_
            refine x_icmp_ne 21 dX4_fitsInCircle_16 (by decide) (fun c_16 => ?_) (fun c_16 => ?_)
            · refine x_iload_n dX4_fitsInCircle_21 rfl ?_
              refine x_if_ge 27 dX4_fitsInCircle_22 (by decide) (fun c_22 => ?_) (fun c_22 => ?_)
              · refine x_iload_n dX4_fitsInCircle_27 rfl ?_
                refine x_iload_n dX4_fitsInCircle_28 rfl ?_
                refine x_icmp_le 47 dX4_fitsInCircle_29 (by decide) (fun c_29 => ?_) (fun c_29 => ?_)
                · refine x_aload_n dX4_fitsInCircle_47 rfl ?_
                  refine y_getR fkX4_18 dX4_fitsInCircle_48 (by decide) rfl rfl ?_
                  refine x_iload_n dX4_fitsInCircle_51 rfl ?_
                  refine y_ialdn (j := x) dX4_fitsInCircle_52 (by decide) rfl (ixN (by omega)) (by omega) ?_
                  rw [hp x (by omega)]
                  refine x_istore_n dX4_fitsInCircle_53 (by decide) rfl ?_
                  refine x_iincv (v := 1) dX4_fitsInCircle_54 rfl (by decide) rfl (by decide) ?_
                  refine x_goto 5 dX4_fitsInCircle_57 (by decide) ?_
                  rw [nI_1, e1]
                  exact hi
                · exact absurd (nI_le (by omega) (by omega)) c_29
              · exact absurd (nI_pos' (by omega)) c_22
            · exact absurd c_16 hne
theorem y_fits {M : Mem} {n L t c : Nat} {p : Asg} (hL : M 80 4 = nI L) (h7 : L ≤ 7) (ht : t < 7) (hc : c < 7) (hp : ∀ j, j < t → M 83 j = gI (-1) (p j)) (hx : ∀ j x, j < t → p j = some x → x < 7) : Y 0 mX4_fitsInCircle 0 (lent 5 [.ref 80, .int (nI t), .int (nI c)]) [] M (some (.int (b2i (fitB p t L (some c))))) M := by
  have h := y_fits_loop (n := n) hL h7 ht hp (l2 := nI c) L (some c) (Nat.le_refl _) (fun x hx => by cases hx; exact hc) hx
  rw [show L + 1 - L = 1 by omega] at h
  refine x_iload_n dX4_fitsInCircle_0 rfl ?_
  refine x_istore_n dX4_fitsInCircle_1 (by decide) rfl ?_
  refine x_iconstv (v := 1) dX4_fitsInCircle_2 (by decide) ?_
  refine x_istore dX4_fitsInCircle_3 (by decide) rfl ?_
  exact h
theorem y_goOn {M M2 : Mem} {t h : Nat} {x a tk : Int32} (ht : t < 7) (hc : Y h mX4_chooseGiver 0 (lent 5 [.ref 80, .int (nI (t + 1)), .int a, .int tk]) [] (updM M 83 t x) none M2) : Y (h + 1) mX4_goOn 0 (lent 5 [.ref 80, .int (nI t), .int x, .int a, .int tk]) [] M none M2 := by
  refine x_aload_n dX4_goOn_0 rfl ?_
  refine y_getR fkX4_18 dX4_goOn_1 (by decide) rfl rfl ?_
  refine x_iload_n dX4_goOn_4 rfl ?_
  refine x_iload_n dX4_goOn_5 rfl ?_
  refine y_iastn (j := t) dX4_goOn_6 (by decide) rfl (ixN (by omega)) (by omega) ?_
  refine x_aload_n dX4_goOn_7 rfl ?_
  refine x_iload_n dX4_goOn_8 rfl ?_
  refine x_iconstv (v := 1) dX4_goOn_9 (by decide) ?_
  refine x_iadd dX4_goOn_10 ?_
  rw [nI_1]
  refine x_iload_n dX4_goOn_11 rfl ?_
  refine x_iload dX4_goOn_12 rfl ?_
  refine y_callV (as := [_, _, _]) okX4_chooseGiver lkX4_47 dX4_goOn_14 rfl (by decide) rfl (hc) (by omega) rfl (by simp [Value.category]) (Nat.le_of_ble_eq_true rfl) rfl rfl (cat8 rfl) ?_
  exact y_vret dX4_goOn_17 rfl (rfl)
theorem y_choose {can : Gr} {n L : Nat} (hirr : ∀ t, can t t = false) : ∀ (k : Nat) (p : Asg) (tk : Int32) (s : Sst) (M : Mem) (t : Nat), t + k = n → FI can n L p t → SMc M can n L → Rp M n p t tk s → ∃ M' : Mem, Y (2 * k + 2) mX4_chooseGiver 0 (lent 5 [.ref 80, .int (nI t), .int (nI (cnt p t)), .int tk]) [] M none M' ∧ Fn M M' n t (DD can n L k p s) := by
  intro k
  induction k with
  | zero =>
    intro p tk s M t htk hF hS hR
    have hte : t = n := by omega
    subst hte
    have hS0 := hS
    have hR0 := hR
    obtain ⟨h3, h4, hb, h7, hL2, hL7⟩ := hS
    obtain ⟨r1, r2, r3, r4, r5⟩ := hR
    have hc := cnt_le p t
    have hcm := cmp_m1 (a := cnt p t + t - t) (m := s.1) (by omega) (by omega)
    have hV := FI_Val hF hirr
    by_cases hpr : cnt p t < s.1
    · refine ⟨M, ?_, ?_⟩
      · skip
        refine x_iload_n dX4_chooseGiver_0 rfl ?_
        refine x_aload_n dX4_chooseGiver_1 rfl ?_
        refine y_getI fkX4_36 dX4_chooseGiver_2 (by decide) rfl rfl ?_
        rw [h3]
        refine x_iadd dX4_chooseGiver_5 ?_
        rw [nI_add]
        refine x_iload_n dX4_chooseGiver_6 rfl ?_
        refine x_isub dX4_chooseGiver_7 ?_
        rw [pk_sub (by omega)]
        refine x_aload_n dX4_chooseGiver_8 rfl ?_
        refine y_getI fkX4_41 dX4_chooseGiver_9 (by decide) rfl rfl ?_
        rw [r3]
        refine x_icmp_gt 16 dX4_chooseGiver_12 (by decide) (fun c_12 => ?_) (fun c_12 => ?_)
        · exact absurd (hcm.mpr (by omega)) (Int32.not_le.mpr c_12)
        · exact y_vret dX4_chooseGiver_15 rfl (rfl)
      · rw [DD, leafD, @if_neg _ (Classical.propDecidable _) (by omega)]
        exact Fn_rf hR0
    · refine ⟨cpyM (updM M 80 5 (nI (cnt p t))) 83 81 7, ?_, ?_⟩
      · skip
        refine x_iload_n dX4_chooseGiver_0 rfl ?_
        refine x_aload_n dX4_chooseGiver_1 rfl ?_
        refine y_getI fkX4_36 dX4_chooseGiver_2 (by decide) rfl rfl ?_
        rw [h3]
        refine x_iadd dX4_chooseGiver_5 ?_
        rw [nI_add]
        refine x_iload_n dX4_chooseGiver_6 rfl ?_
        refine x_isub dX4_chooseGiver_7 ?_
        rw [pk_sub (by omega)]
        refine x_aload_n dX4_chooseGiver_8 rfl ?_
        refine y_getI fkX4_41 dX4_chooseGiver_9 (by decide) rfl rfl ?_
        rw [r3]
        refine x_icmp_gt 16 dX4_chooseGiver_12 (by decide) (fun c_12 => ?_) (fun c_12 => ?_)
        · refine x_iload_n dX4_chooseGiver_16 rfl ?_
          refine x_if_lt 28 dX4_chooseGiver_17 (by decide) (fun c_17 => ?_) (fun c_17 => ?_)
          · exact absurd c_17 (nI_pos (by omega))
          · refine x_iload_n dX4_chooseGiver_20 rfl ?_
            refine x_aload_n dX4_chooseGiver_21 rfl ?_
            refine y_getI fkX4_36 dX4_chooseGiver_22 (by decide) rfl rfl ?_
            rw [h3]
            refine x_icmp_lt 49 dX4_chooseGiver_25 (by decide) (fun c_25 => ?_) (fun c_25 => ?_)
            · exact absurd c_25 (nI_nlt (Nat.le_refl _) (by omega))
            · refine x_aload_n dX4_chooseGiver_28 rfl ?_
              refine x_iload_n dX4_chooseGiver_29 rfl ?_
              refine y_putI fkX4_41 dX4_chooseGiver_30 (by decide) rfl rfl rfl rfl rfl ?_
              refine x_aload_n dX4_chooseGiver_33 rfl ?_
              refine y_getR fkX4_18 dX4_chooseGiver_34 (by decide) rfl rfl ?_
              refine x_iconstv (v := 0) dX4_chooseGiver_37 (by decide) ?_
              refine x_aload_n dX4_chooseGiver_38 rfl ?_
              refine y_getR fkX4_9 dX4_chooseGiver_39 (by decide) rfl rfl ?_
              refine x_iconstv (v := 0) dX4_chooseGiver_42 (by decide) ?_
              refine x_bipushv (v := 7) dX4_chooseGiver_43 (by decide) ?_
              refine y_copy dX4_chooseGiver_45 lkX4_51 (by decide) (by decide) (by decide) rfl rfl (by decide) (by decide) (by decide) (cat8 rfl) ?_
              exact y_vret dX4_chooseGiver_48 rfl (rfl)
        · exact absurd (hcm.mp (Int32.not_lt.mp c_12)) (by omega)
      · rw [DD, leafD, @if_pos _ (Classical.propDecidable _) ⟨hV, by omega⟩]
        refine ⟨?_, fun _ j hj => ?_, by show cnt p t + 1 ≤ 8; omega, fun j hj => ?_, fun c c1 c2 c3 => ?_, fun i hi => ?_⟩
        · rw [cpyM_ne (by decide)]
          simp only [updM, and_self, if_true]
          rw [nI_pred]
        · simp only [cpyM]
          rw [if_pos ⟨trivial, by omega⟩, updM_ne (by decide)]
          exact r1 j hj
        · rw [cpyM_ne (by decide), updM_ne (by decide)]
        · rw [cpyM_ne c2, updM_ne c1]
        · rw [cpyM_ne (by decide), updM_at, if_neg (by omega)]
  | succ k ih =>
    intro p tk s M t htk hF hS hR
    have hS0 := hS
    have hR0 := hR
    obtain ⟨h3, h4, hb, h7, hL2, hL7⟩ := hS
    obtain ⟨r1, r2, r3, r4, r5⟩ := hR
    have hc := cnt_le p t
    have hcm := cmp_m1 (a := cnt p t + n - t) (m := s.1) (by omega) (by omega)
    have etk : n - (k + 1) = t := by omega
    by_cases hpr : cnt p t + n - t < s.1
    · refine ⟨M, ?_, ?_⟩
      · skip
        refine x_iload_n dX4_chooseGiver_0 rfl ?_
        refine x_aload_n dX4_chooseGiver_1 rfl ?_
        refine y_getI fkX4_36 dX4_chooseGiver_2 (by decide) rfl rfl ?_
        rw [h3]
        refine x_iadd dX4_chooseGiver_5 ?_
        rw [nI_add]
        refine x_iload_n dX4_chooseGiver_6 rfl ?_
        refine x_isub dX4_chooseGiver_7 ?_
        rw [pk_sub (by omega)]
        refine x_aload_n dX4_chooseGiver_8 rfl ?_
        refine y_getI fkX4_41 dX4_chooseGiver_9 (by decide) rfl rfl ?_
        rw [r3]
        refine x_icmp_gt 16 dX4_chooseGiver_12 (by decide) (fun c_12 => ?_) (fun c_12 => ?_)
        · exact absurd (hcm.mpr hpr) (Int32.not_le.mpr c_12)
        · exact y_vret dX4_chooseGiver_15 rfl (rfl)
      · rw [DD_same (k + 1) p (by omega) (fun B hB hV => ?_)]
        · exact Fn_rf hR0
        · have e1 : cnt B t = cnt p t := cnt_congr t (fun j hj => hB j (by omega))
          have e2 := cnt_mono B (k + 1) t
          rw [htk] at e2
          omega
    · have hfree : ∀ c, c < n → bitI tk c = false → ∀ j, j < t → ¬ p j = some c := by
        intro c hc1 hb1 j hj hp
        have := (r2 c hc1).mpr ⟨j, hj, hp⟩
        rw [this] at hb1
        cases hb1
      have inner : ∀ (m c : Nat) (s : Sst) (M : Mem), c + m = n → SMc M can n L → Rp M n p t tk s → ∃ M' : Mem, Y (2 * (k + 1) + 2) mX4_chooseGiver 52 [some (.ref 80), some (.int (nI t)), some (.int (nI (cnt p t))), some (.int tk), some (.int (nI c))] [] M none M' ∧ Fn M M' n t (DF (fun c s => DD can n L k (setA p t (opt n c)) s) (m + 1) c s) := by
        intro m
        induction m with
        | zero =>
          intro c s M hcm hS hR
          have hcn : c = n := by omega
          subst hcn
          have hS1 := hS
          have hR1 := hR
          obtain ⟨h3, h4, hb, h7, hL2, hL7⟩ := hS
          obtain ⟨r1, r2, r3, r4, r5⟩ := hR
          have hh := y_holds (M := M) (s := tk) (k := nI t)
          rw [holds_bit (c := t) (by omega)] at hh
          have ho : opt c c = none := by unfold opt; rw [if_neg (by omega)]
          rw [DF, DF, ho]
          cases hbt : bitI tk t with
          | true =>
            rw [hbt] at hh
            obtain ⟨j, hj, hpj⟩ := (r2 t (by omega)).mp hbt
            refine ⟨M, ?_, ?_⟩
            · skip
              refine x_iload dX4_chooseGiver_52 rfl ?_
              refine x_aload_n dX4_chooseGiver_54 rfl ?_
              refine y_getI fkX4_36 dX4_chooseGiver_55 (by decide) rfl rfl ?_
              rw [h3]
              refine x_icmp_ge 111 dX4_chooseGiver_58 (by decide) (fun c_58 => ?_) (fun c_58 => ?_)
              · refine x_iload_n dX4_chooseGiver_111 rfl ?_
                refine x_iload_n dX4_chooseGiver_112 rfl ?_
                refine y_callSN (as := [_, _]) okX5_holds nsX4_57 dX4_chooseGiver_113 rfl (hh) (by omega) rfl (by simp [Value.category]) (Nat.le_of_ble_eq_true rfl) (cat8 rfl) ?_
                refine x_if_ne 127 dX4_chooseGiver_116 (by decide) (fun c_116 => ?_) (fun c_116 => ?_)
                · exact y_vret dX4_chooseGiver_127 rfl (rfl)
                · exact absurd c_116 (by decide)
              · exact absurd (Int32.le_refl _) c_58
            · rw [DD_same k _ (by omega) (fun B hB hV => ?_)]
              · exact Fn_rf hR1
              · exfalso
                have b1 : B j = some t := by rw [hB j (by omega), setA_ne (by omega)]; exact hpj
                have b2 : B t = none := by rw [hB t (by omega), setA_at]
                obtain ⟨-, -, b3⟩ := hV.1 j t (by omega) b1
                obtain ⟨L', rfl⟩ : ∃ L', L = L' + 1 := ⟨L - 1, by omega⟩
                rw [retB, if_neg (by omega), b2] at b3
                cases b3
          | false =>
            rw [hbt] at hh
            have hF2 := FI_none hF (hfree t (by omega) hbt)
            have hR2 := Rp_set (o := none) (tk' := tk) hR1 (fun c hc => by simp)
            have hS2 : SMc (updM M 83 t (gI (-1) none)) can c L := by
              unfold SMc at *
              rw [updM_ne (by decide), updM_ne (by decide)]
              exact hS1
            obtain ⟨M2, s2, f2⟩ := ih (setA p t none) tk s _ (t + 1) (by omega) hF2 hS2 hR2
            rw [cnt_set] at s2
            have hg := y_goOn (by omega) s2
            refine ⟨M2, ?_, Fn_of_set f2⟩
            skip
            refine x_iload dX4_chooseGiver_52 rfl ?_
            refine x_aload_n dX4_chooseGiver_54 rfl ?_
            refine y_getI fkX4_36 dX4_chooseGiver_55 (by decide) rfl rfl ?_
            rw [h3]
            refine x_icmp_ge 111 dX4_chooseGiver_58 (by decide) (fun c_58 => ?_) (fun c_58 => ?_)
            · refine x_iload_n dX4_chooseGiver_111 rfl ?_
              refine x_iload_n dX4_chooseGiver_112 rfl ?_
              refine y_callSN (as := [_, _]) okX5_holds nsX4_57 dX4_chooseGiver_113 rfl (hh) (by omega) rfl (by simp [Value.category]) (Nat.le_of_ble_eq_true rfl) (cat8 rfl) ?_
              refine x_if_ne 127 dX4_chooseGiver_116 (by decide) (fun c_116 => ?_) (fun c_116 => ?_)
              · exact absurd rfl c_116
              · refine x_aload_n dX4_chooseGiver_119 rfl ?_
                refine x_iload_n dX4_chooseGiver_120 rfl ?_
                refine x_iconstv (v := -1) dX4_chooseGiver_121 (by decide) ?_
                refine x_iload_n dX4_chooseGiver_122 rfl ?_
                refine x_iload_n dX4_chooseGiver_123 rfl ?_
                refine y_callV (as := [_, _, _, _]) okX4_goOn lkX4_67 dX4_chooseGiver_124 rfl (by decide) rfl (hg) (by omega) rfl (by simp [Value.category]) (Nat.le_of_ble_eq_true rfl) rfl rfl (cat8 rfl) ?_
                exact y_vret dX4_chooseGiver_127 rfl (rfl)
            · exact absurd (Int32.le_refl _) c_58
        | succ m ihm =>
          intro c s M hcm hS hR
          have hcn : c < n := by omega
          have hS1 := hS
          have hR1 := hR
          obtain ⟨h3, h4, hb, h7, hL2, hL7⟩ := hS
          obtain ⟨r1, r2, r3, r4, r5⟩ := hR
          have hnle : ¬ nI n ≤ nI c := nI_ge hcn (by omega)
          have hh := y_holds (M := M) (s := M 82 t &&& (tk ^^^ -1)) (k := nI c)
          rw [holds_bit (c := c) (by omega), bit_and, bit_not (by omega), hb t (by omega) c hcn] at hh
          have ho : opt n c = some c := by unfold opt; rw [if_pos hcn]
          rw [DF, ho]
          by_cases hok : (can t c && !bitI tk c) = true
          · rw [hok] at hh
            simp only [Bool.and_eq_true, Bool.not_eq_true'] at hok
            have hfi := y_fits (n := n) h4 hL7 (t := t) (c := c) (p := p) (by omega) (by omega) r1 (fun j x hj hx => by have := (hF.1 j x hj hx).1; omega)
            cases hfit : fitB p t L (some c) with
            | true =>
              rw [hfit] at hfi
              have hF2 := FI_some hF hcn hok.1 hfit (hfree c hcn hok.2)
              have hR2 := Rp_set (o := some c) (tk' := tk ||| 1 <<< (nI c &&& 31)) hR1 (fun x hx => by
                rw [bit_or, bit_one (by omega) (by omega)]
                simp
                exact or_congr Iff.rfl eq_comm)
              have hS2 : SMc (updM M 83 t (gI (-1) (some c))) can n L := by
                unfold SMc at *
                rw [updM_ne (by decide), updM_ne (by decide)]
                exact hS1
              obtain ⟨M2, s2, f2⟩ := ih (setA p t (some c)) _ s _ (t + 1) (by omega) hF2 hS2 hR2
              rw [cnt_set] at s2
              have hg := y_goOn (by omega) s2
              have f3 := Fn_of_set f2
              obtain ⟨M3, s3, f4⟩ := ihm (c + 1) _ M2 (by omega) (SMc_fn hS1 f3) (Rp_fn hR1 f3)
              refine ⟨M3, ?_, Fn_tr f3 f4⟩
              skip
              refine x_iload dX4_chooseGiver_52 rfl ?_
              refine x_aload_n dX4_chooseGiver_54 rfl ?_
              refine y_getI fkX4_36 dX4_chooseGiver_55 (by decide) rfl rfl ?_
              rw [h3]
              refine x_icmp_ge 111 dX4_chooseGiver_58 (by decide) (fun c_58 => ?_) (fun c_58 => ?_)
              · exact absurd c_58 hnle
              · refine x_aload_n dX4_chooseGiver_61 rfl ?_
                refine y_getR fkX4_15 dX4_chooseGiver_62 (by decide) rfl rfl ?_
                refine x_iload_n dX4_chooseGiver_65 rfl ?_
                refine y_ialdn (j := t) dX4_chooseGiver_66 (by decide) rfl (ixN (by omega)) (by omega) ?_
                refine x_iload_n dX4_chooseGiver_67 rfl ?_
                refine x_iconstv (v := -1) dX4_chooseGiver_68 (by decide) ?_
                refine x_ixor dX4_chooseGiver_69 ?_
                refine x_iand dX4_chooseGiver_70 ?_
                refine x_iload dX4_chooseGiver_71 rfl ?_
                refine y_callSN (as := [_, _]) okX5_holds nsX4_57 dX4_chooseGiver_73 rfl (hh) (by omega) rfl (by simp [Value.category]) (Nat.le_of_ble_eq_true rfl) (cat8 rfl) ?_
                refine x_if_eq 105 dX4_chooseGiver_76 (by decide) (fun c_76 => ?_) (fun c_76 => ?_)
                · exact absurd c_76 (by decide)
                · refine x_aload_n dX4_chooseGiver_79 rfl ?_
                  refine x_iload_n dX4_chooseGiver_80 rfl ?_
                  refine x_iload dX4_chooseGiver_81 rfl ?_
                  refine y_callV (as := [_, _]) okX4_fitsInCircle lkX4_61 dX4_chooseGiver_83 rfl (by decide) rfl (hfi) (by omega) rfl (by simp [Value.category]) (Nat.le_of_ble_eq_true rfl) rfl rfl (cat8 rfl) ?_
                  refine x_if_eq 105 dX4_chooseGiver_86 (by decide) (fun c_86 => ?_) (fun c_86 => ?_)
                  · exact absurd c_86 (by decide)
                  · refine x_aload_n dX4_chooseGiver_89 rfl ?_
                    refine x_iload_n dX4_chooseGiver_90 rfl ?_
                    refine x_iload dX4_chooseGiver_91 rfl ?_
                    refine x_iload_n dX4_chooseGiver_93 rfl ?_
                    refine x_iconstv (v := 1) dX4_chooseGiver_94 (by decide) ?_
                    refine x_iadd dX4_chooseGiver_95 ?_
                    rw [nI_1]
                    refine x_iload_n dX4_chooseGiver_96 rfl ?_
                    refine x_iload dX4_chooseGiver_97 rfl ?_
                    refine y_callSN (as := [_, _]) okX5_with nsX4_64 dX4_chooseGiver_99 rfl (y_with) (by omega) rfl (by simp [Value.category]) (Nat.le_of_ble_eq_true rfl) (cat8 rfl) ?_
                    refine y_callV (as := [_, _, _, _]) okX4_goOn lkX4_67 dX4_chooseGiver_102 rfl (by decide) rfl (hg) (by omega) rfl (by simp [Value.category]) (Nat.le_of_ble_eq_true rfl) rfl rfl (cat8 rfl) ?_
                    refine x_iincv (v := 1) dX4_chooseGiver_105 rfl (by decide) rfl (by decide) ?_
                    refine x_goto 52 dX4_chooseGiver_108 (by decide) ?_
                    rw [nI_1]
                    exact s3
            | false =>
              rw [hfit] at hfi
              have hsame : DD can n L k (setA p t (some c)) s = s := by
                refine DD_same k _ (by omega) (fun B hB hV => ?_)
                exfalso
                have b1 : B t = some c := by rw [hB t (by omega), setA_at]
                have b2 := fit_ret (p := p) (B := B) (t := t) (fun j hj => by rw [hB j (by omega), setA_ne (by omega)]) L c hfit
                rw [(hV.1 t c (by omega) b1).2.2] at b2
                cases b2
              rw [hsame]
              obtain ⟨M3, s3, f4⟩ := ihm (c + 1) s M (by omega) hS1 hR1
              refine ⟨M3, ?_, f4⟩
              skip
              refine x_iload dX4_chooseGiver_52 rfl ?_
              refine x_aload_n dX4_chooseGiver_54 rfl ?_
              refine y_getI fkX4_36 dX4_chooseGiver_55 (by decide) rfl rfl ?_
              rw [h3]
              refine x_icmp_ge 111 dX4_chooseGiver_58 (by decide) (fun c_58 => ?_) (fun c_58 => ?_)
              · exact absurd c_58 hnle
              · refine x_aload_n dX4_chooseGiver_61 rfl ?_
                refine y_getR fkX4_15 dX4_chooseGiver_62 (by decide) rfl rfl ?_
                refine x_iload_n dX4_chooseGiver_65 rfl ?_
                refine y_ialdn (j := t) dX4_chooseGiver_66 (by decide) rfl (ixN (by omega)) (by omega) ?_
                refine x_iload_n dX4_chooseGiver_67 rfl ?_
                refine x_iconstv (v := -1) dX4_chooseGiver_68 (by decide) ?_
                refine x_ixor dX4_chooseGiver_69 ?_
                refine x_iand dX4_chooseGiver_70 ?_
                refine x_iload dX4_chooseGiver_71 rfl ?_
                refine y_callSN (as := [_, _]) okX5_holds nsX4_57 dX4_chooseGiver_73 rfl (hh) (by omega) rfl (by simp [Value.category]) (Nat.le_of_ble_eq_true rfl) (cat8 rfl) ?_
                refine x_if_eq 105 dX4_chooseGiver_76 (by decide) (fun c_76 => ?_) (fun c_76 => ?_)
                · exact absurd c_76 (by decide)
                · refine x_aload_n dX4_chooseGiver_79 rfl ?_
                  refine x_iload_n dX4_chooseGiver_80 rfl ?_
                  refine x_iload dX4_chooseGiver_81 rfl ?_
                  refine y_callV (as := [_, _]) okX4_fitsInCircle lkX4_61 dX4_chooseGiver_83 rfl (by decide) rfl (hfi) (by omega) rfl (by simp [Value.category]) (Nat.le_of_ble_eq_true rfl) rfl rfl (cat8 rfl) ?_
                  refine x_if_eq 105 dX4_chooseGiver_86 (by decide) (fun c_86 => ?_) (fun c_86 => ?_)
                  · refine x_iincv (v := 1) dX4_chooseGiver_105 rfl (by decide) rfl (by decide) ?_
                    refine x_goto 52 dX4_chooseGiver_108 (by decide) ?_
                    rw [nI_1]
                    exact s3
                  · exact absurd rfl c_86
          · have hok2 : (can t c && !bitI tk c) = false := by simpa using hok
            rw [hok2] at hh
            have hsame : DD can n L k (setA p t (some c)) s = s := by
              refine DD_same k _ (by omega) (fun B hB hV => ?_)
              exfalso
              have b1 : B t = some c := by rw [hB t (by omega), setA_at]
              obtain ⟨b2, b3, b4⟩ := hV.1 t c (by omega) b1
              rw [b3] at hok2
              simp only [Bool.true_and, Bool.not_eq_false'] at hok2
              obtain ⟨j, hj, hpj⟩ := (r2 c hcn).mp hok2
              have b5 : B j = some c := by rw [hB j (by omega), setA_ne (by omega)]; exact hpj
              have := hV.2 t j c (by omega) (by omega) b1 b5
              omega
            rw [hsame]
            obtain ⟨M3, s3, f4⟩ := ihm (c + 1) s M (by omega) hS1 hR1
            refine ⟨M3, ?_, f4⟩
            skip
            refine x_iload dX4_chooseGiver_52 rfl ?_
            refine x_aload_n dX4_chooseGiver_54 rfl ?_
            refine y_getI fkX4_36 dX4_chooseGiver_55 (by decide) rfl rfl ?_
            rw [h3]
            refine x_icmp_ge 111 dX4_chooseGiver_58 (by decide) (fun c_58 => ?_) (fun c_58 => ?_)
            · exact absurd c_58 hnle
            · refine x_aload_n dX4_chooseGiver_61 rfl ?_
              refine y_getR fkX4_15 dX4_chooseGiver_62 (by decide) rfl rfl ?_
              refine x_iload_n dX4_chooseGiver_65 rfl ?_
              refine y_ialdn (j := t) dX4_chooseGiver_66 (by decide) rfl (ixN (by omega)) (by omega) ?_
              refine x_iload_n dX4_chooseGiver_67 rfl ?_
              refine x_iconstv (v := -1) dX4_chooseGiver_68 (by decide) ?_
              refine x_ixor dX4_chooseGiver_69 ?_
              refine x_iand dX4_chooseGiver_70 ?_
              refine x_iload dX4_chooseGiver_71 rfl ?_
              refine y_callSN (as := [_, _]) okX5_holds nsX4_57 dX4_chooseGiver_73 rfl (hh) (by omega) rfl (by simp [Value.category]) (Nat.le_of_ble_eq_true rfl) (cat8 rfl) ?_
              refine x_if_eq 105 dX4_chooseGiver_76 (by decide) (fun c_76 => ?_) (fun c_76 => ?_)
              · refine x_iincv (v := 1) dX4_chooseGiver_105 rfl (by decide) rfl (by decide) ?_
                refine x_goto 52 dX4_chooseGiver_108 (by decide) ?_
                rw [nI_1]
                exact s3
              · exact absurd rfl c_76
      obtain ⟨M1, s1, f1⟩ := inner n 0 s M (by omega) hS0 hR0
      refine ⟨M1, ?_, ?_⟩
      · skip
        refine x_iload_n dX4_chooseGiver_0 rfl ?_
        refine x_aload_n dX4_chooseGiver_1 rfl ?_
        refine y_getI fkX4_36 dX4_chooseGiver_2 (by decide) rfl rfl ?_
        rw [h3]
        refine x_iadd dX4_chooseGiver_5 ?_
        rw [nI_add]
        refine x_iload_n dX4_chooseGiver_6 rfl ?_
        refine x_isub dX4_chooseGiver_7 ?_
        rw [pk_sub (by omega)]
        refine x_aload_n dX4_chooseGiver_8 rfl ?_
        refine y_getI fkX4_41 dX4_chooseGiver_9 (by decide) rfl rfl ?_
        rw [r3]
        refine x_icmp_gt 16 dX4_chooseGiver_12 (by decide) (fun c_12 => ?_) (fun c_12 => ?_)
        · refine x_iload_n dX4_chooseGiver_16 rfl ?_
          refine x_if_lt 28 dX4_chooseGiver_17 (by decide) (fun c_17 => ?_) (fun c_17 => ?_)
          · exact absurd c_17 (nI_pos (by omega))
          · refine x_iload_n dX4_chooseGiver_20 rfl ?_
            refine x_aload_n dX4_chooseGiver_21 rfl ?_
            refine y_getI fkX4_36 dX4_chooseGiver_22 (by decide) rfl rfl ?_
            rw [h3]
            refine x_icmp_lt 49 dX4_chooseGiver_25 (by decide) (fun c_25 => ?_) (fun c_25 => ?_)
            · refine x_iconstv (v := 0) dX4_chooseGiver_49 (by decide) ?_
              refine x_istore dX4_chooseGiver_50 (by decide) rfl ?_
              exact s1
            · exact absurd (nI_lt (by omega) (by omega)) c_25
        · exact absurd (hcm.mp (Int32.not_lt.mp c_12)) hpr
      · rw [DD, etk]
        exact f1
