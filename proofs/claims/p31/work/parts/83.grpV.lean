theorem y_mostTraders {o : Nat} (hk : IsMk o) {M : Mem} {V : Row} (hR : RM M o V) (hV : WF V) (ho : o + 9 < 75) {L : Nat} (hL : L ≤ 7) : ∃ M' : Mem, Y 8 mX0_mostTraders 0 (lent 3 [.ref 75, .ref o, .int (nI L)]) [] M (some (.int (nI (bst V L).1 - 1))) M' ∧ ∀ c, c ≠ 75 → c ≠ 76 → c ≠ 77 → c ≠ 78 → c ≠ 79 → M' c = M c := by
  obtain ⟨hn, hn2⟩ := WF_n hV
  have s1 := y_readTakers hk hR hV ho
  have a1 : ∀ c, c ≠ 75 → c ≠ 76 → setR (updM (updM M 75 4 (nI (nT V))) 75 5 (nI (2 ^ nT V))) 76 (tkR V (nT V) 0 (rowN (fun _ => 0) 7 (M 76))) c = M c := fun c h1 h2 => by rw [row_ne h2, updM_ne h1, updM_ne h1]
  have a4 : setR (updM (updM M 75 4 (nI (nT V))) 75 5 (nI (2 ^ nT V))) 76 (tkR V (nT V) 0 (rowN (fun _ => 0) 7 (M 76))) 75 4 = nI (nT V) := by rw [row_ne (by decide)]; simp [updM]
  have a5 : setR (updM (updM M 75 4 (nI (nT V))) 75 5 (nI (2 ^ nT V))) 76 (tkR V (nT V) 0 (rowN (fun _ => 0) 7 (M 76))) 75 5 = nI (2 ^ nT V) := by rw [row_ne (by decide)]; simp [updM]
  have a6 : setR (updM (updM M 75 4 (nI (nT V))) 75 5 (nI (2 ^ nT V))) 76 (tkR V (nT V) 0 (rowN (fun _ => 0) 7 (M 76))) 76 = tkR V (nT V) 0 (rowN (fun _ => 0) 7 (M 76)) := row_at
  generalize setR (updM (updM M 75 4 (nI (nT V))) 75 5 (nI (2 ^ nT V))) 76 (tkR V (nT V) 0 (rowN (fun _ => 0) 7 (M 76))) = M1 at *
  have ht : TkOk (canV V) (nT V) (M1 76) := by rw [a6]; exact tk_ok hV
  have s2 := y_findChains hn a4 a5
  have b4 : setR M1 77 (chO (M1 76) (nT V) (2 ^ nT V) (2 ^ nT V - 1) (sgl (nT V) (rowN (fun _ => 0) 128 (M1 77)))) 75 4 = nI (nT V) := by rw [row_ne (by decide)]; exact a4
  have b5 : setR M1 77 (chO (M1 76) (nT V) (2 ^ nT V) (2 ^ nT V - 1) (sgl (nT V) (rowN (fun _ => 0) 128 (M1 77)))) 75 5 = nI (2 ^ nT V) := by rw [row_ne (by decide)]; exact a5
  have s3 := y_findCircles hn b4 b5 hL
  rw [row_at, row_ne (k := 76) (by decide), row_ne (k := 78) (by decide)] at s3
  have hC := cir_row (W := M1 78) hV hL ht (R := M1 77) rfl
  generalize hLO : chO (M1 76) (nT V) (2 ^ nT V) (2 ^ nT V - 1) (sgl (nT V) (rowN (fun _ => 0) 128 (M1 77))) = LO at *
  generalize ciR LO (M1 76) L (2 ^ nT V) (M1 78) = C at *
  have c4 : setR (setR M1 77 LO) 78 C 75 4 = nI (nT V) := by rw [row_ne (by decide)]; exact b4
  have c5 : setR (setR M1 77 LO) 78 C 75 5 = nI (2 ^ nT V) := by rw [row_ne (by decide)]; exact b5
  have s4 := y_findBarters hn c4 c5
  rw [row_at, most_ok hV hC] at s4
  have hfr : ∀ R : Row, ∀ c, c ≠ 75 → c ≠ 76 → c ≠ 77 → c ≠ 78 → c ≠ 79 → setR (setR (setR M1 77 LO) 78 C) 79 R c = M c := fun R c h1 h2 h3 h4 h5 => (row_ne h5).trans ((row_ne h4).trans ((row_ne h3).trans (a1 c h1 h2)))
  generalize (btO C (2 ^ nT V) (2 ^ nT V - 1) 0 (upd (setR (setR M1 77 LO) 78 C 79) 0 1)).2 = R9 at *
  refine ⟨setR (setR (setR M1 77 LO) 78 C) 79 R9, ?_, hfr R9⟩
  skip
  refine x_aload_n dX0_mostTraders_0 rfl ?_
  refine x_aload_n dX0_mostTraders_1 rfl ?_
  refine y_callV (as := [_]) okX0_readTakers lkX0_25 dX0_mostTraders_2 rfl (by decide) rfl (s1) (by omega) rfl (by simp [Value.category]) (Nat.le_of_ble_eq_true rfl) rfl rfl (cat8 rfl) ?_
  refine x_aload_n dX0_mostTraders_5 rfl ?_
  refine y_callV0 okX0_findChains lkX0_29 dX0_mostTraders_6 (by decide) rfl ((s2.more (d' := 7) (by omega))) (by omega) (Nat.le_of_ble_eq_true rfl) rfl rfl (cat8 rfl) ?_
  refine x_aload_n dX0_mostTraders_9 rfl ?_
  refine x_iload_n dX0_mostTraders_10 rfl ?_
  refine y_callV (as := [_]) okX0_findCircles lkX0_32 dX0_mostTraders_11 rfl (by decide) rfl ((s3.more (d' := 7) (by omega))) (by omega) rfl (by simp [Value.category]) (Nat.le_of_ble_eq_true rfl) rfl rfl (cat8 rfl) ?_
  refine x_aload_n dX0_mostTraders_14 rfl ?_
  refine y_callV0 okX0_findBarters lkX0_36 dX0_mostTraders_15 (by decide) rfl ((s4.more (d' := 7) (by omega))) (by omega) (Nat.le_of_ble_eq_true rfl) rfl rfl (cat8 rfl) ?_
  exact y_ret dX0_mostTraders_18 rfl (rfl) (rfl) (rfl)
