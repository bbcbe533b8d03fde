theorem y_call {M : Mem} {V : Row} {K : Nat} {h : Nat → Row} (hC : CI M V K h) (hV : WF V) : ∃ M' : Mem, Y 19 mX5_call 0 (lent 1 [.ref 0]) [] M (some (.int (mstV V (cirN V)))) M' ∧ CI M' (callW V) (kup K) (hup K h V) ∧ FC M M' := by
  obtain ⟨hn1, hn2⟩ := WF_n hV
  have hC0 := hC
  obtain ⟨hR, hH⟩ := hC0
  have hH0 := hH
  obtain ⟨hK, hk0, w, hw, hk2, _⟩ := hH0
  have hrec := y_record hK hw hk0 hk2
  have hrr := CI_rec hC hn1 hw hk2
  rw [show updM (cfM (updM M 31 2 (nI ((w + 1) % 4))) (33 + 10 * ((w + 1) % 4)) 1) 31 0 (nI (min (K + 1) 4)) = recC M K w from rfl] at hrec
  generalize recC M K w = M1 at *
  obtain ⟨hC1, hF1⟩ := hrr
  have hR1 := hC1.1
  obtain ⟨M2, s2, r2, f2⟩ := y_callMarket mk1 hR1 hV (by decide)
  refine ⟨M2, ?_, ⟨r2, HC_fr (fun c h1 h2 => f2 c (by omega) (by omega) (by omega) (by omega) (by omega)) hC1.2⟩, FC.tr hF1 (fun c hc => f2 c (by omega) (by omega) (by omega) (by omega) (by omega))⟩
  skip
  refine x_aload_n dX5_call_0 rfl ?_
  refine y_getR fkX5_25 dX5_call_1 (by decide) rfl rfl ?_
  refine x_aload_n dX5_call_4 rfl ?_
  refine y_getR fkX5_10 dX5_call_5 (by decide) rfl rfl ?_
  refine y_callV (as := [_]) okX1_record lkX5_64 dX5_call_8 rfl (by decide) rfl ((hrec.more (d' := 18) (by omega))) (by omega) rfl (by simp [Value.category]) (Nat.le_of_ble_eq_true rfl) rfl rfl (cat8 rfl) ?_
  refine x_aload_n dX5_call_11 rfl ?_
  refine x_aload_n dX5_call_12 rfl ?_
  refine y_getR fkX5_10 dX5_call_13 (by decide) rfl rfl ?_
  refine y_callV (as := [_]) okX5_callMarket lkX5_106 dX5_call_16 rfl (by decide) rfl (s2) (by omega) rfl (by simp [Value.category]) (Nat.le_of_ble_eq_true rfl) rfl rfl (cat8 rfl) ?_
  exact y_ret dX5_call_19 rfl (rfl) (rfl) (rfl)
theorem y_day {M : Mem} {V : Row} {K : Nat} {h : Nat → Row} (hC : CI M V K h) (hG : Good V) : ∃ M' : Mem, Y 6 mX5_day 0 (lent 1 [.ref 0]) [] M (some (.int (thrV V))) M' ∧ CI M' (passV V) (kup K) (hup K h V) ∧ FC M M' := by
  have hV := hG.1
  obtain ⟨hn1, hn2⟩ := WF_n hV
  have hC0 := hC
  obtain ⟨hR, hH⟩ := hC0
  have hH0 := hH
  obtain ⟨hK, hk0, w, hw, hk2, _⟩ := hH0
  have hrec := y_record hK hw hk0 hk2
  have hrr := CI_rec hC hn1 hw hk2
  rw [show updM (cfM (updM M 31 2 (nI ((w + 1) % 4))) (33 + 10 * ((w + 1) % 4)) 1) 31 0 (nI (min (K + 1) 4)) = recC M K w from rfl] at hrec
  generalize recC M K w = M1 at *
  obtain ⟨hC1, hF1⟩ := hrr
  have hR1 := hC1.1
  obtain ⟨M2, s2, r2, f2⟩ := y_passDay mk1 hR1 hG
  refine ⟨M2, ?_, CI_o hC1 r2 f2, FC.tr hF1 (FC_o f2)⟩
  skip
  refine x_aload_n dX5_day_0 rfl ?_
  refine y_getR fkX5_25 dX5_day_1 (by decide) rfl rfl ?_
  refine x_aload_n dX5_day_4 rfl ?_
  refine y_getR fkX5_10 dX5_day_5 (by decide) rfl rfl ?_
  refine y_callV (as := [_]) okX1_record lkX5_64 dX5_day_8 rfl (by decide) rfl ((hrec.more (d' := 5) (by omega))) (by omega) rfl (by simp [Value.category]) (Nat.le_of_ble_eq_true rfl) rfl rfl (cat8 rfl) ?_
  refine x_aload_n dX5_day_11 rfl ?_
  refine y_getR fkX5_10 dX5_day_12 (by decide) rfl rfl ?_
  refine y_callV0 okX2_passDay lkX5_110 dX5_day_15 (by decide) rfl (s2) (by omega) (Nat.le_of_ble_eq_true rfl) rfl rfl (cat8 rfl) ?_
  exact y_ret dX5_day_18 rfl (rfl) (rfl) (rfl)
theorem y_circle1 {M : Mem} {V : Row} {K : Nat} {h : Nat → Row} (hC : CI M V K h) (hV : WF V) {x : Int32} (hx : 2 ≤ x ∧ x ≤ 7) : ∃ M' : Mem, Y 3 mX5_circle 0 (lent 3 [.ref 0, .int x]) [] M (some (.int (V 7))) M' ∧ CI M' (upd V 7 x) (kup K) (hup K h V) ∧ FC M M' := by
  obtain ⟨hn1, hn2⟩ := WF_n hV
  have hC0 := hC
  obtain ⟨hR, hH⟩ := hC0
  have hH0 := hH
  obtain ⟨hK, hk0, w, hw, hk2, _⟩ := hH0
  have hrec := y_record hK hw hk0 hk2
  have hrr := CI_rec hC hn1 hw hk2
  rw [show updM (cfM (updM M 31 2 (nI ((w + 1) % 4))) (33 + 10 * ((w + 1) % 4)) 1) 31 0 (nI (min (K + 1) 4)) = recC M K w from rfl] at hrec
  generalize recC M K w = M1 at *
  obtain ⟨hC1, hF1⟩ := hrr
  have hR1 := hC1.1
  have hc := y_isCircle (M := M) (k := x)
  rw [decide_eq_true hx.1, decide_eq_true hx.2] at hc
  have e8 : M1 1 8 = V 7 := hR1.1.2.1
  have f2 : FrO 1 M1 (updM M1 1 8 x) := FrO.up (by decide)
  refine ⟨updM M1 1 8 x, ?_, CI_o hC1 (RM_cir hR1) f2, FC.tr hF1 (FC_o f2)⟩
  skip
  refine x_iload_n dX5_circle_0 rfl ?_
  refine y_callS (as := [_]) okX5_isCircleLength lkX5_89 dX5_circle_1 rfl (hc) (by omega) rfl (by simp [Value.category]) (Nat.le_of_ble_eq_true rfl) (cat8 rfl) ?_
  refine x_if_ne 9 dX5_circle_4 (by decide) (fun c_4 => ?_) (fun c_4 => ?_)
  · refine x_aload_n dX5_circle_9 rfl ?_
    refine y_getR fkX5_25 dX5_circle_10 (by decide) rfl rfl ?_
    refine x_aload_n dX5_circle_13 rfl ?_
    refine y_getR fkX5_10 dX5_circle_14 (by decide) rfl rfl ?_
    refine y_callV (as := [_]) okX1_record lkX5_64 dX5_circle_17 rfl (by decide) rfl (hrec) (by omega) rfl (by simp [Value.category]) (Nat.le_of_ble_eq_true rfl) rfl rfl (cat8 rfl) ?_
    refine x_aload_n dX5_circle_20 rfl ?_
    refine y_getR fkX5_10 dX5_circle_21 (by decide) rfl rfl ?_
    refine y_getI fkX5_92 dX5_circle_24 (by decide) rfl rfl ?_
    rw [e8]
    refine x_istore_n dX5_circle_27 (by decide) rfl ?_
    refine x_aload_n dX5_circle_28 rfl ?_
    refine y_getR fkX5_10 dX5_circle_29 (by decide) rfl rfl ?_
    refine x_iload_n dX5_circle_32 rfl ?_
    refine y_putI fkX5_92 dX5_circle_33 (by decide) rfl rfl rfl rfl rfl ?_
    refine x_iload_n dX5_circle_36 rfl ?_
    exact y_ret dX5_circle_37 rfl (rfl) (rfl) (rfl)
  · exact absurd c_4 (by decide)
theorem y_circle0 {M : Mem} {x : Int32} (hx : ¬ (2 ≤ x ∧ x ≤ 7)) : Y 3 mX5_circle 0 (lent 3 [.ref 0, .int x]) [] M (some (.int (-1))) M := by
  have hc := y_isCircle (M := M) (k := x)
  have hb : (decide (2 ≤ x) && decide (x ≤ 7)) = false := by simpa using hx
  rw [hb] at hc
  refine x_iload_n dX5_circle_0 rfl ?_
  refine y_callS (as := [_]) okX5_isCircleLength lkX5_89 dX5_circle_1 rfl (hc) (by omega) rfl (by simp [Value.category]) (Nat.le_of_ble_eq_true rfl) (cat8 rfl) ?_
  refine x_if_ne 9 dX5_circle_4 (by decide) (fun c_4 => ?_) (fun c_4 => ?_)
  · exact absurd rfl c_4
  · refine x_iconstv (v := -1) dX5_circle_7 (by decide) ?_
    exact y_ret dX5_circle_8 rfl (rfl) (rfl) (rfl)
theorem y_lot1 {M : Mem} {V : Row} {K : Nat} {h : Nat → Row} (hC : CI M V K h) (hV : WF V) {x : Int32} (h0 : ¬ x < 0) (hx : ¬ 10000 ≤ x) : ∃ M' : Mem, Y 3 mX5_lot 0 (lent 3 [.ref 0, .int x]) [] M (some (.int (V 8))) M' ∧ CI M' (upd V 8 x) (kup K) (hup K h V) ∧ FC M M' := by
  obtain ⟨hn1, hn2⟩ := WF_n hV
  have hC0 := hC
  obtain ⟨hR, hH⟩ := hC0
  have hH0 := hH
  obtain ⟨hK, hk0, w, hw, hk2, _⟩ := hH0
  have hrec := y_record hK hw hk0 hk2
  have hrr := CI_rec hC hn1 hw hk2
  rw [show updM (cfM (updM M 31 2 (nI ((w + 1) % 4))) (33 + 10 * ((w + 1) % 4)) 1) 31 0 (nI (min (K + 1) 4)) = recC M K w from rfl] at hrec
  generalize recC M K w = M1 at *
  obtain ⟨hC1, hF1⟩ := hrr
  have hR1 := hC1.1
  have e10 : M1 1 10 = V 8 := hR1.1.2.2.2.1
  have f2 : FrO 1 M1 (updM M1 1 10 x) := FrO.up (by decide)
  refine ⟨updM M1 1 10 x, ?_, CI_o hC1 (RM_lot hR1) f2, FC.tr hF1 (FC_o f2)⟩
  skip
  refine x_iload_n dX5_lot_0 rfl ?_
  refine x_if_lt 11 dX5_lot_1 (by decide) (fun c_1 => ?_) (fun c_1 => ?_)
  · exact absurd c_1 h0
  · refine x_iload_n dX5_lot_4 rfl ?_
    refine x_sipushv (v := 10000) dX5_lot_5 (by decide) ?_
    refine x_icmp_lt 13 dX5_lot_8 (by decide) (fun c_8 => ?_) (fun c_8 => ?_)
    · refine x_aload_n dX5_lot_13 rfl ?_
      refine y_getR fkX5_25 dX5_lot_14 (by decide) rfl rfl ?_
      refine x_aload_n dX5_lot_17 rfl ?_
      refine y_getR fkX5_10 dX5_lot_18 (by decide) rfl rfl ?_
      refine y_callV (as := [_]) okX1_record lkX5_64 dX5_lot_21 rfl (by decide) rfl (hrec) (by omega) rfl (by simp [Value.category]) (Nat.le_of_ble_eq_true rfl) rfl rfl (cat8 rfl) ?_
      refine x_aload_n dX5_lot_24 rfl ?_
      refine y_getR fkX5_10 dX5_lot_25 (by decide) rfl rfl ?_
      refine y_getI fkX5_95 dX5_lot_28 (by decide) rfl rfl ?_
      rw [e10]
      refine x_istore_n dX5_lot_31 (by decide) rfl ?_
      refine x_aload_n dX5_lot_32 rfl ?_
      refine y_getR fkX5_10 dX5_lot_33 (by decide) rfl rfl ?_
      refine x_iload_n dX5_lot_36 rfl ?_
      refine y_putI fkX5_95 dX5_lot_37 (by decide) rfl rfl rfl rfl rfl ?_
      refine x_iload_n dX5_lot_40 rfl ?_
      exact y_ret dX5_lot_41 rfl (rfl) (rfl) (rfl)
    · exact absurd (Int32.not_lt.mp c_8) hx
theorem y_lot0 {M : Mem} {x : Int32} (hx : x < 0 ∨ 10000 ≤ x) : Y 3 mX5_lot 0 (lent 3 [.ref 0, .int x]) [] M (some (.int (-1))) M := by
  refine x_iload_n dX5_lot_0 rfl ?_
  refine x_if_lt 11 dX5_lot_1 (by decide) (fun c_1 => ?_) (fun c_1 => ?_)
  · refine x_iconstv (v := -1) dX5_lot_11 (by decide) ?_
    exact y_ret dX5_lot_12 rfl (rfl) (rfl) (rfl)
  · refine x_iload_n dX5_lot_4 rfl ?_
    refine x_sipushv (v := 10000) dX5_lot_5 (by decide) ?_
    refine x_icmp_lt 13 dX5_lot_8 (by decide) (fun c_8 => ?_) (fun c_8 => ?_)
    · rcases hx with q | q
      · exact absurd q c_1
      · exact absurd c_8 (Int32.not_lt.mpr q)
    · refine x_iconstv (v := -1) dX5_lot_11 (by decide) ?_
      exact y_ret dX5_lot_12 rfl (rfl) (rfl) (rfl)
theorem y_life1 {M : Mem} {V : Row} {K : Nat} {h : Nat → Row} (hC : CI M V K h) (hV : WF V) {k : Nat} (hk : k < 6) {x : Int32} (h1 : ¬ x < 1) (hx : ¬ 9 < x) : ∃ M' : Mem, Y 3 mX5_life 0 (lent 4 [.ref 0, .int (nI k), .int x]) [] M (some (.int (V (10 + 2 * k)))) M' ∧ CI M' (upd V (10 + 2 * k) x) (kup K) (hup K h V) ∧ FC M M' := by
  obtain ⟨hn1, hn2⟩ := WF_n hV
  have hC0 := hC
  obtain ⟨hR, hH⟩ := hC0
  have hH0 := hH
  obtain ⟨hK, hk0, w, hw, hk2, _⟩ := hH0
  have hrec := y_record hK hw hk0 hk2
  have hrr := CI_rec hC hn1 hw hk2
  rw [show updM (cfM (updM M 31 2 (nI ((w + 1) % 4))) (33 + 10 * ((w + 1) % 4)) 1) 31 0 (nI (min (K + 1) 4)) = recC M K w from rfl] at hrec
  generalize recC M K w = M1 at *
  obtain ⟨hC1, hF1⟩ := hrr
  have hR1 := hC1.1
  have hi := y_isKind (M := M) (k := nI k)
  rw [decide_eq_true (nI_pos' (by omega)), decide_eq_true (show nI k < 6 from nI_lt hk (by decide))] at hi
  have e7 : M1 7 k = V (10 + 2 * k) := (hR1.2.1 k hk).1
  have f2 : FrO 1 M1 (updM M1 7 k x) := FrO.up (by decide)
  refine ⟨updM M1 7 k x, ?_, CI_o hC1 (RM_life hR1 hk) f2, FC.tr hF1 (FC_o f2)⟩
  skip
  refine x_iload_n dX5_life_0 rfl ?_
  refine y_callS (as := [_]) okX5_isKind lkX5_54 dX5_life_1 rfl (hi) (by omega) rfl (by simp [Value.category]) (Nat.le_of_ble_eq_true rfl) (cat8 rfl) ?_
  refine x_if_eq 18 dX5_life_4 (by decide) (fun c_4 => ?_) (fun c_4 => ?_)
  · exact absurd c_4 (by decide)
  · refine x_iload_n dX5_life_7 rfl ?_
    refine x_iconstv (v := 1) dX5_life_8 (by decide) ?_
    refine x_icmp_lt 18 dX5_life_9 (by decide) (fun c_9 => ?_) (fun c_9 => ?_)
    · exact absurd c_9 h1
    · refine x_iload_n dX5_life_12 rfl ?_
      refine x_bipushv (v := 9) dX5_life_13 (by decide) ?_
      refine x_icmp_le 20 dX5_life_15 (by decide) (fun c_15 => ?_) (fun c_15 => ?_)
      · refine x_aload_n dX5_life_20 rfl ?_
        refine y_getR fkX5_25 dX5_life_21 (by decide) rfl rfl ?_
        refine x_aload_n dX5_life_24 rfl ?_
        refine y_getR fkX5_10 dX5_life_25 (by decide) rfl rfl ?_
        refine y_callV (as := [_]) okX1_record lkX5_64 dX5_life_28 rfl (by decide) rfl (hrec) (by omega) rfl (by simp [Value.category]) (Nat.le_of_ble_eq_true rfl) rfl rfl (cat8 rfl) ?_
        refine x_aload_n dX5_life_31 rfl ?_
        refine y_getR fkX5_10 dX5_life_32 (by decide) rfl rfl ?_
        refine y_getR fkX5_86 dX5_life_35 (by decide) rfl rfl ?_
        refine x_iload_n dX5_life_38 rfl ?_
        refine y_ialdn (j := k) dX5_life_39 (by decide) rfl (ixN (by omega)) (by omega) ?_
        rw [e7]
        refine x_istore_n dX5_life_40 (by decide) rfl ?_
        refine x_aload_n dX5_life_41 rfl ?_
        refine y_getR fkX5_10 dX5_life_42 (by decide) rfl rfl ?_
        refine y_getR fkX5_86 dX5_life_45 (by decide) rfl rfl ?_
        refine x_iload_n dX5_life_48 rfl ?_
        refine x_iload_n dX5_life_49 rfl ?_
        refine y_iastn (j := k) dX5_life_50 (by decide) rfl (ixN (by omega)) (by omega) ?_
        refine x_iload_n dX5_life_51 rfl ?_
        exact y_ret dX5_life_52 rfl (rfl) (rfl) (rfl)
      · exact absurd (Int32.not_lt.mp hx) c_15
theorem y_want1 {M : Mem} {V : Row} {K : Nat} {h : Nat → Row} (hC : CI M V K h) (hV : WF V) {t : Nat} (ht : t < nT V) {x : Int32} (hx : 0 ≤ x ∧ x ≤ 63) : ∃ M' : Mem, Y 3 mX5_want 0 (lent 4 [.ref 0, .int (nI t), .int x]) [] M (some (.int (V (23 + 5 * t)))) M' ∧ CI M' (upd V (23 + 5 * t) x) (kup K) (hup K h V) ∧ FC M M' := by
  obtain ⟨hn1, hn2⟩ := WF_n hV
  have hC0 := hC
  obtain ⟨hR, hH⟩ := hC0
  have hH0 := hH
  obtain ⟨hK, hk0, w, hw, hk2, _⟩ := hH0
  have hrec := y_record hK hw hk0 hk2
  have hrr := CI_rec hC hn1 hw hk2
  rw [show updM (cfM (updM M 31 2 (nI ((w + 1) % 4))) (33 + 10 * ((w + 1) % 4)) 1) 31 0 (nI (min (K + 1) 4)) = recC M K w from rfl] at hrec
  generalize recC M K w = M1 at *
  obtain ⟨hC1, hF1⟩ := hrr
  have hR1 := hC1.1
  have h7 := b6 hV ht
  have hi := y_isSet (M := M) (k := x)
  rw [decide_eq_true hx.1, decide_eq_true hx.2] at hi
  have hh := y_hasT mk1 hR hV ht
  have e7 : M1 3 t = V (23 + 5 * t) := (hR1.2.2 t ht).2.1
  have f2 : FrO 1 M1 (updM M1 3 t x) := FrO.up (by decide)
  refine ⟨updM M1 3 t x, ?_, CI_o hC1 (RM_want hR1 ht hn1) f2, FC.tr hF1 (FC_o f2)⟩
  skip
  refine x_aload_n dX5_want_0 rfl ?_
  refine y_getR fkX5_10 dX5_want_1 (by decide) rfl rfl ?_
  refine x_iload_n dX5_want_4 rfl ?_
  refine y_callV (as := [_]) okX2_has lkX5_72 dX5_want_5 rfl (by decide) rfl (hh) (by omega) rfl (by simp [Value.category]) (Nat.le_of_ble_eq_true rfl) rfl rfl (cat8 rfl) ?_
  refine x_if_eq 18 dX5_want_8 (by decide) (fun c_8 => ?_) (fun c_8 => ?_)
  · exact absurd c_8 (by decide)
  · refine x_iload_n dX5_want_11 rfl ?_
    refine y_callS (as := [_]) okX5_isSetOfKinds lkX5_58 dX5_want_12 rfl (hi) (by omega) rfl (by simp [Value.category]) (Nat.le_of_ble_eq_true rfl) (cat8 rfl) ?_
    refine x_if_ne 20 dX5_want_15 (by decide) (fun c_15 => ?_) (fun c_15 => ?_)
    · refine x_aload_n dX5_want_20 rfl ?_
      refine y_getR fkX5_25 dX5_want_21 (by decide) rfl rfl ?_
      refine x_aload_n dX5_want_24 rfl ?_
      refine y_getR fkX5_10 dX5_want_25 (by decide) rfl rfl ?_
      refine y_callV (as := [_]) okX1_record lkX5_64 dX5_want_28 rfl (by decide) rfl (hrec) (by omega) rfl (by simp [Value.category]) (Nat.le_of_ble_eq_true rfl) rfl rfl (cat8 rfl) ?_
      refine x_aload_n dX5_want_31 rfl ?_
      refine y_getR fkX5_10 dX5_want_32 (by decide) rfl rfl ?_
      refine y_getR fkX5_83 dX5_want_35 (by decide) rfl rfl ?_
      refine x_iload_n dX5_want_38 rfl ?_
      refine y_ialdn (j := t) dX5_want_39 (by decide) rfl (ixN (by omega)) (by omega) ?_
      rw [e7]
      refine x_istore_n dX5_want_40 (by decide) rfl ?_
      refine x_aload_n dX5_want_41 rfl ?_
      refine y_getR fkX5_10 dX5_want_42 (by decide) rfl rfl ?_
      refine y_getR fkX5_83 dX5_want_45 (by decide) rfl rfl ?_
      refine x_iload_n dX5_want_48 rfl ?_
      refine x_iload_n dX5_want_49 rfl ?_
      refine y_iastn (j := t) dX5_want_50 (by decide) rfl (ixN (by omega)) (by omega) ?_
      refine x_iload_n dX5_want_51 rfl ?_
      exact y_ret dX5_want_52 rfl (rfl) (rfl) (rfl)
    · exact absurd c_15 (by decide)
theorem y_go1 {M : Mem} {V : Row} {K : Nat} {h : Nat → Row} (hC : CI M V K h) (hV : WF V) {t : Nat} (ht : t < nT V) : ∃ M' : Mem, Y 3 mX5_go 0 (lent 3 [.ref 0, .int (nI t)]) [] M (some (.int (V (26 + 5 * t)))) M' ∧ CI M' (goV V t) (kup K) (hup K h V) ∧ FC M M' := by
  obtain ⟨hn1, hn2⟩ := WF_n hV
  have hC0 := hC
  obtain ⟨hR, hH⟩ := hC0
  have hH0 := hH
  obtain ⟨hK, hk0, w, hw, hk2, _⟩ := hH0
  have hrec := y_record hK hw hk0 hk2
  have hrr := CI_rec hC hn1 hw hk2
  rw [show updM (cfM (updM M 31 2 (nI ((w + 1) % 4))) (33 + 10 * ((w + 1) % 4)) 1) 31 0 (nI (min (K + 1) 4)) = recC M K w from rfl] at hrec
  generalize recC M K w = M1 at *
  obtain ⟨hC1, hF1⟩ := hrr
  have hR1 := hC1.1
  have h7 := b6 hV ht
  have hh := y_hasT mk1 hR hV ht
  have e7 : M1 6 t = V (26 + 5 * t) := (hR1.2.2 t ht).2.2.2.2
  obtain ⟨M2, s2, r2, f2⟩ := y_remove mk1 hR1 hV ht
  refine ⟨M2, ?_, CI_o hC1 r2 f2, FC.tr hF1 (FC_o f2)⟩
  skip
  refine x_aload_n dX5_go_0 rfl ?_
  refine y_getR fkX5_10 dX5_go_1 (by decide) rfl rfl ?_
  refine x_iload_n dX5_go_4 rfl ?_
  refine y_callV (as := [_]) okX2_has lkX5_72 dX5_go_5 rfl (by decide) rfl (hh) (by omega) rfl (by simp [Value.category]) (Nat.le_of_ble_eq_true rfl) rfl rfl (cat8 rfl) ?_
  refine x_if_ne 13 dX5_go_8 (by decide) (fun c_8 => ?_) (fun c_8 => ?_)
  · refine x_aload_n dX5_go_13 rfl ?_
    refine y_getR fkX5_25 dX5_go_14 (by decide) rfl rfl ?_
    refine x_aload_n dX5_go_17 rfl ?_
    refine y_getR fkX5_10 dX5_go_18 (by decide) rfl rfl ?_
    refine y_callV (as := [_]) okX1_record lkX5_64 dX5_go_21 rfl (by decide) rfl (hrec) (by omega) rfl (by simp [Value.category]) (Nat.le_of_ble_eq_true rfl) rfl rfl (cat8 rfl) ?_
    refine x_aload_n dX5_go_24 rfl ?_
    refine y_getR fkX5_10 dX5_go_25 (by decide) rfl rfl ?_
    refine y_getR fkX5_75 dX5_go_28 (by decide) rfl rfl ?_
    refine x_iload_n dX5_go_31 rfl ?_
    refine y_ialdn (j := t) dX5_go_32 (by decide) rfl (ixN (by omega)) (by omega) ?_
    rw [e7]
    refine x_istore_n dX5_go_33 (by decide) rfl ?_
    refine x_aload_n dX5_go_34 rfl ?_
    refine y_getR fkX5_10 dX5_go_35 (by decide) rfl rfl ?_
    refine x_iload_n dX5_go_38 rfl ?_
    refine y_callV (as := [_]) okX2_remove lkX5_79 dX5_go_39 rfl (by decide) rfl ((s2.more (d' := 2) (by omega))) (by omega) rfl (by simp [Value.category]) (Nat.le_of_ble_eq_true rfl) rfl rfl (cat8 rfl) ?_
    refine x_iload_n dX5_go_42 rfl ?_
    exact y_ret dX5_go_43 rfl (rfl) (rfl) (rfl)
  · exact absurd c_8 (by decide)
theorem y_barter1 {M : Mem} {V : Row} {K : Nat} {h : Nat → Row} (hC : CI M V K h) (hV : WF V) {a b : Nat} (ha : a < nT V) (hb : b < nT V) (hab : bothB V (nI a) (nI b) = true) : ∃ M' : Mem, Y 6 mX5_barter 0 (lent 3 [.ref 0, .int (nI a), .int (nI b)]) [] M (some (.int (bartR V a b))) M' ∧ CI M' (bartV V a b) (kup K) (hup K h V) ∧ FC M M' := by
  obtain ⟨hn1, hn2⟩ := WF_n hV
  have hC0 := hC
  obtain ⟨hR, hH⟩ := hC0
  have hH0 := hH
  obtain ⟨hK, hk0, w, hw, hk2, _⟩ := hH0
  have hrec := y_record hK hw hk0 hk2
  have hrr := CI_rec hC hn1 hw hk2
  rw [show updM (cfM (updM M 31 2 (nI ((w + 1) % 4))) (33 + 10 * ((w + 1) % 4)) 1) 31 0 (nI (min (K + 1) 4)) = recC M K w from rfl] at hrec
  generalize recC M K w = M1 at *
  obtain ⟨hC1, hF1⟩ := hrr
  have hR1 := hC1.1
  have hh := y_hasBoth mk1 hR hV (a := nI a) (b := nI b)
  rw [hab] at hh
  obtain ⟨M2, s2, r2, f2⟩ := y_barterHand mk1 hR1 hV ha hb
  refine ⟨M2, ?_, CI_o hC1 r2 f2, FC.tr hF1 (FC_o f2)⟩
  skip
  refine x_aload_n dX5_barter_0 rfl ?_
  refine y_getR fkX5_10 dX5_barter_1 (by decide) rfl rfl ?_
  refine x_iload_n dX5_barter_4 rfl ?_
  refine x_iload_n dX5_barter_5 rfl ?_
  refine y_callV (as := [_, _]) okX2_hasBoth lkX5_98 dX5_barter_6 rfl (by decide) rfl ((hh.more (d' := 5) (by omega))) (by omega) rfl (by simp [Value.category]) (Nat.le_of_ble_eq_true rfl) rfl rfl (cat8 rfl) ?_
  refine x_if_ne 14 dX5_barter_9 (by decide) (fun c_9 => ?_) (fun c_9 => ?_)
  · refine x_aload_n dX5_barter_14 rfl ?_
    refine y_getR fkX5_25 dX5_barter_15 (by decide) rfl rfl ?_
    refine x_aload_n dX5_barter_18 rfl ?_
    refine y_getR fkX5_10 dX5_barter_19 (by decide) rfl rfl ?_
    refine y_callV (as := [_]) okX1_record lkX5_64 dX5_barter_22 rfl (by decide) rfl ((hrec.more (d' := 5) (by omega))) (by omega) rfl (by simp [Value.category]) (Nat.le_of_ble_eq_true rfl) rfl rfl (cat8 rfl) ?_
    refine x_aload_n dX5_barter_25 rfl ?_
    refine y_getR fkX5_10 dX5_barter_26 (by decide) rfl rfl ?_
    refine x_iload_n dX5_barter_29 rfl ?_
    refine x_iload_n dX5_barter_30 rfl ?_
    refine y_callV (as := [_, _]) okX2_barterByHand lkX5_102 dX5_barter_31 rfl (by decide) rfl (s2) (by omega) rfl (by simp [Value.category]) (Nat.le_of_ble_eq_true rfl) rfl rfl (cat8 rfl) ?_
    exact y_ret dX5_barter_34 rfl (rfl) (rfl) (rfl)
  · exact absurd c_9 (by decide)
theorem y_come1 {M : Mem} {V : Row} {K : Nat} {h : Nat → Row} (hC : CI M V K h) (hV : WF V) (h6 : nT V < 7) {mk x : Int32} (hm : 0 ≤ mk ∧ mk < 6) (hx : 0 ≤ x ∧ x ≤ 63) : ∃ M' : Mem, Y 3 mX5_come 0 (lent 3 [.ref 0, .int mk, .int x]) [] M (some (.int (V 1))) M' ∧ CI M' (comeV V mk x) (kup K) (hup K h V) ∧ FC M M' := by
  obtain ⟨hn1, hn2⟩ := WF_n hV
  have hC0 := hC
  obtain ⟨hR, hH⟩ := hC0
  have hH0 := hH
  obtain ⟨hK, hk0, w, hw, hk2, _⟩ := hH0
  have hrec := y_record hK hw hk0 hk2
  have hrr := CI_rec hC hn1 hw hk2
  rw [show updM (cfM (updM M 31 2 (nI ((w + 1) % 4))) (33 + 10 * ((w + 1) % 4)) 1) 31 0 (nI (min (K + 1) 4)) = recC M K w from rfl] at hrec
  generalize recC M K w = M1 at *
  obtain ⟨hC1, hF1⟩ := hrr
  have hR1 := hC1.1
  have hi := y_isSet (M := M) (k := x)
  rw [decide_eq_true hx.1, decide_eq_true hx.2] at hi
  have hi2 := y_isKind (M := M) (k := mk)
  rw [decide_eq_true hm.1, decide_eq_true hm.2] at hi2
  have e7 : M 1 7 = nI (nT V) := hR.1.1.trans hn2
  have hlt : nI (nT V) < 7 := nI_lt (a := nT V) (b := 7) h6 (by decide)
  have s2 := y_add mk1 hR1 hV h6 (mk := mk) (w := x)
  have r2 := RM_come hR1 hV h6 (mk := mk) (w := x)
  have f2 : FrO 1 M1 (adM M1 1 (nT V) mk x) := fun c hc => by
    unfold adM mwM inc
    rw [updM_ne (by omega), updM_ne (by omega), updM_ne (by omega), updM_ne (by omega), updM_ne (by omega), updM_ne (by omega), updM_ne (by omega)]
  have e8 : adM M1 1 (nT V) mk x 1 7 - 1 = V 1 := by
    rw [r2.1.1, come_lo (by omega), if_pos (Or.inl rfl), hn2, nI_1, nI_s1]
  refine ⟨adM M1 1 (nT V) mk x, ?_, CI_o hC1 r2 f2, FC.tr hF1 (FC_o f2)⟩
  skip
  refine x_iload_n dX5_come_0 rfl ?_
  refine y_callS (as := [_]) okX5_isKind lkX5_54 dX5_come_1 rfl (hi2) (by omega) rfl (by simp [Value.category]) (Nat.le_of_ble_eq_true rfl) (cat8 rfl) ?_
  refine x_if_eq 14 dX5_come_4 (by decide) (fun c_4 => ?_) (fun c_4 => ?_)
  · exact absurd c_4 (by decide)
  · refine x_iload_n dX5_come_7 rfl ?_
    refine y_callS (as := [_]) okX5_isSetOfKinds lkX5_58 dX5_come_8 rfl (hi) (by omega) rfl (by simp [Value.category]) (Nat.le_of_ble_eq_true rfl) (cat8 rfl) ?_
    refine x_if_ne 16 dX5_come_11 (by decide) (fun c_11 => ?_) (fun c_11 => ?_)
    · refine x_aload_n dX5_come_16 rfl ?_
      refine y_getR fkX5_10 dX5_come_17 (by decide) rfl rfl ?_
      refine y_getI fkX5_61 dX5_come_20 (by decide) rfl rfl ?_
      rw [e7]
      refine x_bipushv (v := 7) dX5_come_23 (by decide) ?_
      refine x_icmp_lt 31 dX5_come_25 (by decide) (fun c_25 => ?_) (fun c_25 => ?_)
      · refine x_aload_n dX5_come_31 rfl ?_
        refine y_getR fkX5_25 dX5_come_32 (by decide) rfl rfl ?_
        refine x_aload_n dX5_come_35 rfl ?_
        refine y_getR fkX5_10 dX5_come_36 (by decide) rfl rfl ?_
        refine y_callV (as := [_]) okX1_record lkX5_64 dX5_come_39 rfl (by decide) rfl (hrec) (by omega) rfl (by simp [Value.category]) (Nat.le_of_ble_eq_true rfl) rfl rfl (cat8 rfl) ?_
        refine x_aload_n dX5_come_42 rfl ?_
        refine y_getR fkX5_10 dX5_come_43 (by decide) rfl rfl ?_
        refine x_iload_n dX5_come_46 rfl ?_
        refine x_iload_n dX5_come_47 rfl ?_
        refine y_callV (as := [_, _]) okX2_add lkX5_68 dX5_come_48 rfl (by decide) rfl ((s2.more (d' := 2) (by omega))) (by omega) rfl (by simp [Value.category]) (Nat.le_of_ble_eq_true rfl) rfl rfl (cat8 rfl) ?_
        refine x_aload_n dX5_come_51 rfl ?_
        refine y_getR fkX5_10 dX5_come_52 (by decide) rfl rfl ?_
        refine y_getI fkX5_61 dX5_come_55 (by decide) rfl rfl ?_
        refine x_iconstv (v := 1) dX5_come_58 (by decide) ?_
        refine x_isub dX5_come_59 ?_
        rw [e8]
        exact y_ret dX5_come_60 rfl (rfl) (rfl) (rfl)
      · exact absurd hlt c_25
    · exact absurd c_11 (by decide)
