theorem ok_bestWant (t : Int32) : Ok mX5_bestWant mX6_bestWant [.int t] := by
  intro M K n hI
  have hR := hI.hR
  have hV := hI.hV
  cases hb : hasB (M 85) t with
  | true =>
    obtain ⟨j, hj, rfl⟩ := hasB_of hV hb
    obtain ⟨M1, s1, f1⟩ := y_bestWant1 hR hV hj
    have e85 := f1 85 (by omega)
    obtain ⟨M2, s2, f2⟩ := r_bestWant1 (M := M1) (by rw [e85]; exact hV) (t := j) (by rw [e85]; exact hj)
    rw [e85] at s2
    exact ok_fs hI (by omega) (by omega) s1 s2 ⟨fun c hc => f1 c (by omega), fun i _ _ => by rw [f1 84 (by omega)]⟩ f2
  | false => exact ok_same hI (by omega) (by omega) (y_bestWant0 hR hV hb) (r_bestWant0 hV hb)
theorem id_fin {M M1 M2 : Mem} {K n : Nat} (hI : Inv2 M K n) (f1 : ∀ c, c < 11 ∨ (20 < c ∧ c < 80) ∨ 83 < c → M1 c = M c) (g1 : ∀ j, j < 57 → M2 85 j = M1 85 j) (g2 : ∀ c, c ≠ 84 → c ≠ 85 → c ≠ 86 → c < 90 → M2 c = M1 c) (g3 : ∀ i, i ≠ 11 → M2 84 i = M1 84 i) : Inv2 M2 K n := by
  have hrc : ∀ j, j < 57 → M2 85 j = M 85 j := fun j hj => by rw [g1 j hj, f1 85 (by omega)]
  have h7 := (WF_n hI.hV).1
  have hC : CI M1 (M2 85) K (hr (M 87)) := ⟨RM_rc (RM_congr (fun c a b => f1 c (by omega)) hI.hR) hrc h7, HC_fr (fun c a b => f1 c (by omega)) hI.1.1.2⟩
  exact inv_m hI hC (fun c hc => f1 c (by omega)) ⟨fun c hc => g2 c (by omega) (by omega) (by omega) (by omega), fun i _ h _ => g3 i h⟩ rfl (by rw [g3 3 (by omega), f1 84 (by omega)]; exact hI.hk) (fun i hi j hj => by rw [g2 87 (by omega) (by omega) (by omega) (by omega), f1 87 (by omega)]) hI.1.2.2.2 (Good_rc hI.hG hrc)
theorem ok_ifDays (d w : Int32) : Ok mX5_ifDays mX6_ifDays [.int d, .int w] := by
  intro M K n hI
  have hR := hI.hR
  have hV := hI.hV
  by_cases hx : (1 ≤ d ∧ d ≤ 20) ∧ (0 ≤ w ∧ w ≤ 2)
  · obtain ⟨D, hD, rfl⟩ := vp_in_of (vpin_b (a := 1) (n := 21) (by decide) hx.1.1 (by decide) (lt_of_le9 (k := 20) (by decide) hx.1.2)) (by decide)
    obtain ⟨W, hW, rfl⟩ := vp_in_of (vpin_b (a := 0) (n := 3) (by decide) hx.2.1 (by decide) (lt_of_le9 (k := 2) (by decide) hx.2.2)) (by decide)
    have h1 : 1 ≤ D := (nI_leI (a := 1) (b := D) (by decide) (by omega)).mp hx.1.1
    have h20 : D ≤ 20 := by omega
    rcases (show W = 0 ∨ W = 1 ∨ W = 2 by omega) with rfl | rfl | rfl
    · obtain ⟨M1, s1, f1⟩ := y_ifDays_0 hR hI.hG h1 h20
      have e85 := f1 85 (by omega)
      obtain ⟨M2, s2, g1, g2, g3⟩ := r_ifDays_0 (M := M1) (by rw [e85]; exact hI.hG) h1 h20
      rw [e85] at s2
      exact ⟨_, M1, M2, s1.more (by omega), s2.more (by omega), K, n, id_fin hI f1 g1 g2 g3⟩
    · obtain ⟨M1, s1, f1⟩ := y_ifDays_1 hR hI.hG h1 h20
      have e85 := f1 85 (by omega)
      obtain ⟨M2, s2, g1, g2, g3⟩ := r_ifDays_1 (M := M1) (by rw [e85]; exact hI.hG) h1 h20
      rw [e85] at s2
      exact ⟨_, M1, M2, s1.more (by omega), s2.more (by omega), K, n, id_fin hI f1 g1 g2 g3⟩
    · obtain ⟨M1, s1, f1⟩ := y_ifDays_2 hR hI.hG h1 h20
      have e85 := f1 85 (by omega)
      obtain ⟨M2, s2, g1, g2, g3⟩ := r_ifDays_2 (M := M1) (by rw [e85]; exact hI.hG) h1 h20
      rw [e85] at s2
      exact ⟨_, M1, M2, s1.more (by omega), s2.more (by omega), K, n, id_fin hI f1 g1 g2 g3⟩
  · exact ok_same hI (by omega) (by omega) (y_ifDays0 hx) (r_ifDays0 hx)
theorem ok_fresh {M : Mem} {K n : Nat} (hI : Inv2 M K n) : ∃ v : UInt64, FP.dcmp v v = some .eq ∧ Y 30 mX5_freshness 0 (lent 2 [.ref 0]) [] M (some (.double v)) M ∧ Y 30 mX6_freshness 0 (lent 3 [.ref 84]) [] M (some (.double v)) M := ⟨frV (M 85), (fr_ok hI.hG).2.1, (y_fresh hI.hR hI.hG).more (by omega), (r_fresh hI.hG).more (by omega)⟩
