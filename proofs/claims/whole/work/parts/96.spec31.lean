theorem InvM_fr {M M' : Mem} {K : Nat} (h : InvM M K) (hc : ∀ c, (1 ≤ c ∧ c ≤ 8) ∨ (31 ≤ c ∧ c ≤ 72) ∨ c = 85 ∨ c = 87 → M' c = M c) (h3 : M' 84 3 = M 84 3) : InvM M' K := by
  obtain ⟨⟨a1, a2⟩, b, c, d⟩ := h
  refine ⟨?_, by rw [hc 85 (by omega)]; exact b, by rw [h3]; exact c, by rw [hc 87 (by omega)]; exact d⟩
  rw [hc 85 (by omega), hc 87 (by omega)]
  exact ⟨RM_congr (fun c x y => hc c (by omega)) a1, HC_fr (fun c x y => hc c (by omega)) a2⟩
theorem InvT_fr2 {M M' : Mem} (h : InvT M) (h0 : M' 0 8 = M 0 8) (h1 : M' 0 9 = M 0 9) (h8 : M' 84 8 = M 84 8) (h9 : M' 84 9 = M 84 9) : InvT M' := by
  unfold InvT at *
  rw [h0, h1, h8, h9]
  exact h
theorem inv_pad {M M2 : Mem} {K n n' : Nat} (hI : Inv2 M K n) (hc : ∀ c, c ≠ 73 → c ≠ 74 → c ≠ 89 → c ≠ 84 → M2 c = M c) (h84 : ∀ i, i ≠ 7 → i ≠ 11 → i ≠ 16 → M2 84 i = M 84 i) (hP : InvP M2 n') : Inv2 M2 K n' := by
  obtain ⟨hM, _, hS, hT⟩ := hI
  exact ⟨InvM_fr hM (fun c h => hc c (by omega) (by omega) (by omega) (by omega)) (h84 3 (by omega) (by omega) (by omega)), hP, InvS_fr hS (by rw [hc 0 (by omega) (by omega) (by omega) (by omega)]) (h84 5 (by omega) (by omega) (by omega)) (hc 88 (by omega) (by omega) (by omega) (by omega)) (fun c a b => hc c (by omega) (by omega) (by omega) (by omega)), InvT_fr hT (hc 0 (by omega) (by omega) (by omega) (by omega)) (h84 8 (by omega) (by omega) (by omega)) (h84 9 (by omega) (by omega) (by omega))⟩
theorem ok_why (x : Int32) : Ok mX5_why mX6_why [.int x] := by
  intro M K n hI
  rcases toI_of (x := x) 2 (by decide) with h | ⟨w, hw, rfl⟩
  · have e0 : (0 : Int32).toInt = 0 := by decide
    have e1 : (1 : Int32).toInt = 1 := by decide
    have h0 : ¬ x = 0 := fun q => by rw [q, e0] at h; omega
    have h1 : ¬ x = 1 := fun q => by rw [q, e1] at h; omega
    exact ok_same hI (by omega) (by omega) (y_why_d h0 h1) (r_why_d h0 h1)
  · rcases hI.2.2.2 with ⟨a, b, c⟩ | ⟨p, hp, a, b, c⟩
    · rcases (show w = 0 ∨ w = 1 by omega) with rfl | rfl
      · have s := r_why_0 (M := M)
        rw [b] at s
        exact ok_same hI (by omega) (by omega) (y_why_0n a) s
      · have s := r_why_1 (M := M)
        rw [c] at s
        exact ok_same hI (by omega) (by omega) (y_why_1n a) s
    · have hne : ¬ M 0 9 = -1 := by rw [a]; exact m1_nI (by omega)
      rcases (show w = 0 ∨ w = 1 by omega) with rfl | rfl
      · have s := y_why_0s hne
        rw [c] at s
        exact ok_same hI (by omega) (by omega) s r_why_0
      · have s := y_why_1s hne
        rw [a, ← b] at s
        exact ok_same hI (by omega) (by omega) s r_why_1
theorem ok_append (x : Int32) : Ok mX5_append mX6_append [.int x] := by
  intro M K n hI
  obtain ⟨hP, hPC, hPR⟩ := hI.2.1
  by_cases hx : 33 ≤ x ∧ x ≤ 126
  · by_cases h60 : n < 60
    · have s1 := y_append1 hP hPC hx h60
      have s2 := r_append1 (M := updM (updM M 74 n x) 73 0 (nI (n + 1))) (n := n) (by rw [updM_ne (by decide), updM_ne (by decide)]; exact hPR.1) hx h60
      refine ⟨_, _, _, s1.more (by omega), s2.more (by omega), K, n + 1, ?_⟩
      have e89 : updM (updM (updM (updM M 74 n x) 73 0 (nI (n + 1))) 89 n x) 84 7 (nI (n + 1)) 89 = upd (M 89) n x := by
        rw [updM_ne (by decide), updM_eq, updM_ne (by decide), updM_ne (by decide)]
      have e74 : updM (updM (updM (updM M 74 n x) 73 0 (nI (n + 1))) 89 n x) 84 7 (nI (n + 1)) 74 = upd (M 74) n x := by
        rw [updM_ne (by decide), updM_ne (by decide), updM_ne (by decide), updM_eq]
      refine inv_pad hI (fun c h1 h2 h3 h4 => by rw [updM_ne h4, updM_ne h3, updM_ne h1, updM_ne h2]) (fun i h _ _ => by rw [updM_at, if_neg (by omega), updM_ne (by decide), updM_ne (by decide), updM_ne (by decide)]) ⟨?_, ⟨?_, ?_⟩, ?_, fun j _ => rfl⟩
      · rw [e89]
        refine ⟨by omega, fun j hj => ?_⟩
        by_cases hjn : j = n
        · subst hjn; rw [pk_us]; exact hx
        · rw [pk_un hjn]; exact hP.2 j (by omega)
      · rw [updM_ne (by decide), updM_ne (by decide), updM_at, if_pos ⟨rfl, rfl⟩]
      · rw [e89, e74]
        intro j hj
        by_cases hjn : j = n
        · subst hjn; rw [pk_us, pk_us]
        · rw [pk_un hjn, pk_un hjn]; exact hPC.2 j (by omega)
      · rw [updM_at, if_pos ⟨rfl, rfl⟩]
    · have hn : n = 60 := by have := hP.1; omega
      subst hn
      exact ok_same hI (by omega) (by omega) (y_appendL hx hPC.1) (r_appendL hPR.1 hx)
  · exact ok_same hI (by omega) (by omega) (y_append0 hx) (r_append0 hx)
theorem InvP_0 {M : Mem} (h1 : M 73 0 = 0) (h2 : M 84 7 = 0) : InvP M 0 := ⟨⟨by omega, fun j hj => absurd hj (by omega)⟩, ⟨h1, fun j hj => absurd hj (by omega)⟩, h2, fun j hj => absurd hj (by omega)⟩
theorem ok_clear : Ok mX5_clear mX6_clear [] := by
  intro M K n hI
  obtain ⟨hP, hPC, hPR⟩ := hI.2.1
  have s1 := y_clear (M := M)
  have s2 := r_clear (M := updM M 73 0 0)
  rw [updM_ne (k := 84) (by decide), hPR.1, ← hPC.1] at s2
  refine ⟨_, _, _, s1.more (by omega), s2.more (by omega), K, 0, ?_⟩
  refine inv_pad hI (fun c h1 h2 h3 h4 => by rw [updM_ne h4, updM_ne h1]) (fun i h _ _ => by rw [updM_at, if_neg (by omega), updM_ne (by decide)]) (InvP_0 ?_ ?_)
  · rw [updM_ne (by decide), updM_at, if_pos ⟨rfl, rfl⟩]
  · rw [updM_at, if_pos ⟨rfl, rfl⟩]
theorem ok_undo : Ok mX5_undo mX6_undo [] := by
  intro M K n hI
  cases K with
  | zero => exact ok_same hI (by omega) (by omega) (y_undo0 hI.1.1.2.2.1) (r_undo0 hI.hk)
  | succ k =>
    obtain ⟨hK, hk0, w, hw, hk2, hrow⟩ := hI.1.1.2
    have s1 := y_undo1 hK (by omega) hw hk0 hk2
    have hlast := hrow k (by omega)
    have hgk := hI.1.2.2.2 k (by omega)
    have h7 : nT (hr (M 87) k) ≤ 7 := (WF_n hgk.1).1
    rw [show hb w (k + 1) k = 33 + 10 * w by unfold hb; omega] at hlast
    have hfr : ∀ c, (c < 1 ∨ 8 < c) → c ≠ 31 → updM (updM (cfM M 1 (33 + 10 * w)) 31 0 (nI (k + 1 - 1))) 31 2 (nI ((w + 3) % 4)) c = M c := fun c h1 h2 => by rw [updM_ne h2, updM_ne h2, cf_ne (by omega)]
    have hR1 : RM (updM (updM (cfM M 1 (33 + 10 * w)) 31 0 (nI (k + 1 - 1))) 31 2 (nI ((w + 3) % 4))) 1 (hr (M 87) k) := RM_congr (fun c a b => by rw [updM_ne (by omega), updM_ne (by omega)]) (RM_cf hlast h7 (by omega))
    have h310 : updM (updM (cfM M 1 (33 + 10 * w)) 31 0 (nI (k + 1 - 1))) 31 2 (nI ((w + 3) % 4)) 31 0 = nI k := by
      rw [updM_at, if_neg (by omega), updM_at, if_pos ⟨rfl, rfl⟩]
      rfl
    have h312 : updM (updM (cfM M 1 (33 + 10 * w)) 31 0 (nI (k + 1 - 1))) 31 2 (nI ((w + 3) % 4)) 31 2 = nI ((w + 3) % 4) := by
      rw [updM_at, if_pos ⟨rfl, rfl⟩]
    rw [Nat.add_sub_cancel] at *
    generalize updM (updM (cfM M 1 (33 + 10 * w)) 31 0 (nI k)) 31 2 (nI ((w + 3) % 4)) = M1 at *
    have hH1 : HC M1 k (hr (M 87)) := by
      refine ⟨by omega, h310, (w + 3) % 4, Nat.mod_lt _ (by omega), h312, fun i hi => ?_⟩
      have e : hb ((w + 3) % 4) k i = hb w (k + 1) i := by unfold hb; omega
      have hrg := hb_rng (w := w) (K := k + 1) (i := i)
      rw [e]
      exact RM_congr (fun c a b => hfr c (by omega) (by omega)) (hrow i (by omega))
    have hF : FC M M1 := fun c hc => hfr c (by omega) (by omega)
    have s2 := r_undo1 (M := M1) (K := k) (by omega) (by rw [hF 84 (by omega)]; exact hI.hk)
    rw [hF 87 (by omega), hF 85 (by omega)] at s2
    have hrc : ∀ j, j < 57 → rowN (hr (M 87) k) 57 (M 85) j = hr (M 87) k j := fun j hj => if_pos hj
    refine ⟨_, _, _, s1.more (by omega), s2.more (by omega), k, n, ?_⟩
    refine inv_m hI (M1 := M1) (K' := k) (V' := rowN (hr (M 87) k) 57 (M 85)) (h' := hr (M 87)) ⟨RM_rc hR1 hrc h7, hH1⟩ hF ⟨fun c hc => by rw [row_ne (by omega), updM_ne (by omega)], fun i h _ _ => by rw [row_ne (by decide), updM_at, if_neg (by omega)]⟩ row_at ?_ (fun i hi j hj => ?_) (fun i hi => hI.1.2.2.2 i (by omega)) (Good_rc hgk hrc)
    · rw [row_ne (by decide), updM_at, if_pos ⟨rfl, rfl⟩]
    · rw [row_ne (by decide), updM_ne (by decide), hF 87 (by omega)]
theorem ok_save : Ok mX5_save mX6_save [] := by
  intro M K n hI
  have s1 := y_save hI.hR
  have hfr : ∀ c, (c < 21 ∨ 28 < c) → c ≠ 0 → updM (cfM M 21 1) 0 7 1 c = M c := fun c h1 h2 => by rw [updM_ne h2, cf_ne (by omega)]
  have h7 : nT (M 85) ≤ 7 := (WF_n hI.hV).1
  have hS : RM (updM (cfM M 21 1) 0 7 1) 21 (M 85) := RM_congr (fun c a b => updM_ne (by omega)) (RM_cf hI.hR h7 (by omega))
  have h07 : updM (cfM M 21 1) 0 7 1 0 7 = 1 := by rw [updM_at, if_pos ⟨rfl, rfl⟩]
  have h0 : ∀ i, i ≠ 7 → updM (cfM M 21 1) 0 7 1 0 i = M 0 i := fun i h => by rw [updM_at, if_neg (by omega), cf_ne (by omega)]
  generalize updM (cfM M 21 1) 0 7 1 = M1 at *
  have s2 := r_save (M := M1)
  rw [hfr 85 (by omega) (by omega)] at s2
  refine ⟨_, _, _, s1.more (by omega), s2.more (by omega), K, n, ?_⟩
  have hc : ∀ c, c ≠ 0 → (c < 21 ∨ 28 < c) → c ≠ 84 → c ≠ 88 → updM (setR M1 88 (rowN (M 85) 57 (M1 88))) 84 5 1 c = M c := fun c h1 h2 h3 h4 => by rw [updM_ne h3, row_ne h4, hfr c h2 h1]
  have h84 : ∀ i, i ≠ 5 → updM (setR M1 88 (rowN (M 85) 57 (M1 88))) 84 5 1 84 i = M 84 i := fun i h => by rw [updM_at, if_neg (by omega), row_ne (by decide), hfr 84 (by omega) (by omega)]
  have e0 : ∀ i, updM (setR M1 88 (rowN (M 85) 57 (M1 88))) 84 5 1 0 i = M1 0 i := fun i => by rw [updM_ne (by decide), row_ne (by decide)]
  have e88 : updM (setR M1 88 (rowN (M 85) 57 (M1 88))) 84 5 1 88 = rowN (M 85) 57 (M1 88) := by rw [updM_ne (by decide), row_at]
  have e5 : updM (setR M1 88 (rowN (M 85) 57 (M1 88))) 84 5 1 84 5 = 1 := by rw [updM_at, if_pos ⟨rfl, rfl⟩]
  have hrc : ∀ j, j < 57 → rowN (M 85) 57 (M1 88) j = M 85 j := fun j hj => if_pos hj
  obtain ⟨hM, hP, _, hT⟩ := hI
  refine ⟨InvM_fr hM (fun c h => hc c (by omega) (by omega) (by omega) (by omega)) (h84 3 (by omega)), InvP_fr hP (hc 89 (by omega) (by omega) (by omega) (by omega)) (by rw [hc 73 (by omega) (by omega) (by omega) (by omega)]) (hc 74 (by omega) (by omega) (by omega) (by omega)) (h84 7 (by omega)), ⟨?_, Or.inr ⟨e5, ?_, ?_⟩⟩, InvT_fr2 hT (by rw [e0, h0 8 (by omega)]) (by rw [e0, h0 9 (by omega)]) (h84 8 (by omega)) (h84 9 (by omega))⟩
  · rw [e0, h07, e5]
  · rw [e88]
    exact RM_congr (fun c a b => by rw [updM_ne (by omega), row_ne (by omega)]) (RM_rc hS hrc h7)
  · rw [e88]
    exact Good_rc hM.2.1 hrc
theorem ok_restore : Ok mX5_restore mX6_restore [] := by
  intro M K n hI
  obtain ⟨h75, hS⟩ := hI.2.2.1
  rcases hS with h0 | ⟨h1, hR, hG⟩
  · exact ok_same hI (by omega) (by omega) (y_restore0 (h75.trans h0)) (r_restore0 h0)
  · have h7 : nT (M 88) ≤ 7 := (WF_n hG.1).1
    obtain ⟨M1, s1, c1, f1⟩ := y_restore1 hI.hC hI.hV hR h7 (h75.trans h1)
    have e84 := f1 84 (by omega)
    have s2 := r_restore1 (M := M1) (K := K) hI.hK (by rw [e84]; exact hI.hk) (by rw [e84]; exact h1)
    rw [f1 88 (by omega), f1 85 (by omega)] at s2
    have hrc : ∀ j, j < 57 → rowN (M 88) 57 (M 85) j = M 88 j := fun j hj => if_pos hj
    exact ok_rec hI (by omega) (by omega) s1 s2 ⟨RM_rc c1.1 hrc h7, c1.2⟩ f1 RQ_set (Good_rc hG hrc)
