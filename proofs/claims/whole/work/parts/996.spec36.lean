theorem cl_le {P : Row} {n : Nat} : ∀ k i, (clL P n k i).length ≤ k
  | 0, _ => Nat.le_refl _
  | k + 1, i => by
    have := cl_le (P := P) (n := n) k (i + 1)
    rw [clL]
    split
    · rw [List.length_cons]; omega
    · omega
theorem dyR_lt {P : Row} {n : Nat} : ∀ (f i : Nat) (V : Row) (x : Int32 × Nat), (dyR P n f i V).2 = some x → x.2 < n
  | 0, _, _, _, h => by cases h
  | f + 1, i, V, x, h => by
    rw [dyR] at h
    by_cases hi : i < n
    · rw [if_pos hi] at h
      by_cases hx : P i = 120
      · rw [if_pos hx] at h
        by_cases h10 : dyO V (P (i + 1) - 48) (P (i + 2) - 48) = 10
        · rw [if_pos h10] at h
          exact dyR_lt f _ _ x h
        · rw [if_neg h10] at h
          cases h
          exact hi
      · rw [if_neg hx] at h
        by_cases h9 : P i = 99
        · rw [if_pos h9] at h
          exact dyR_lt f _ _ x h
        · rw [if_neg h9] at h
          exact dyR_lt f _ _ x h
    · rw [if_neg hi] at h
      cases h
theorem recH_same {M M1 : Mem} {K : Nat} (h1 : M1 85 = M 85) (h2 : M1 87 = M 87) : recH M1 K = recH M K := by
  unfold recH
  rw [h1, h2]
theorem ok_traders : Ok mX5_traders mX6_traders [] := by
  intro M K n hI
  obtain ⟨hP, hPC, hPR⟩ := hI.2.1
  rcases sg_ft hP.1 (n + 1) 0 0 (by omega) (by omega) with ⟨a, b⟩ | ⟨l, a, b⟩
  · exact ok_fs hI (by omega) (by omega) (y_traders0 hP hPC (by rw [ft_0]; exact b)) (r_traders0 hP hPR b) FS.rf FS_16
  · obtain ⟨hcl, hok⟩ := sg_cl (n + 1) 0 l a
    rw [Nat.sub_zero] at hcl
    rw [Nat.zero_add] at b
    have hft : ftC (M 89) n n 0 0 48 = -4 := by rw [ft_0, b]
    have hlen : l.length ≤ 60 := by
      have := cl_le (P := M 89) (n := n) n 0
      rw [hcl] at this
      have := hP.1
      omega
    by_cases hl : nT (M 85) + l.length ≤ 7
    · obtain ⟨M1, s1, c1, z1, e1, f1⟩ := y_traders1 hI.hC hI.hG hP hPC hft hcl hok hl
      have e85 := f1 85 (by omega)
      have e84 := f1 84 (by omega)
      have e89 := f1 89 (by omega)
      obtain ⟨M2, s2, p1, p2, p3, p4, p5, p6⟩ := r_traders1 (M := M1) hP ⟨by rw [e84]; exact hPR.1, by rw [e89]; exact hPR.2⟩ (by rw [e85]; exact hI.hG) hI.hK (by rw [e84]; exact hI.hk) a hok b (by rw [e85]; exact hl)
      rw [e85] at s2 p1
      refine ⟨_, M1, M2, s1.more (by omega), s2.more (by omega), kup K, 0, ?_⟩
      refine inv_gen hI c1 f1 (by rw [e1]) (fun c hc => p5 c (by omega) (by omega) (by omega)) (p6 5 (by omega) (by omega) (by omega)) p1 (by rw [p4, recK_kup hI.hK]) (fun i hi j hj => ?_) (hup_all hI.hK hI.hG hI.1.2.2.2) (Good_addL l _ hI.hG hok hl) (InvP_0 ?_ p2) (InvT_fr hI.2.2.2 ?_ ?_ ?_)
      · rw [p3, recH_same e85 (f1 87 (by omega)), hr_rec hI.hK hi hj]
      · rw [p5 73 (by omega) (by omega) (by omega)]; exact z1
      · rw [p5 0 (by omega) (by omega) (by omega)]; exact e1
      · rw [p6 8 (by omega) (by omega) (by omega), e84]
      · rw [p6 9 (by omega) (by omega) (by omega), e84]
    · have hc := cl_len (P := M 89) (n := n) n 0
      rw [Nat.zero_add, hcl] at hc
      have hc : sumF (fun j => ind (M 89 j = 62)) n = nI l.length := by
        rw [hc]
        show nI 0 + nI l.length = nI l.length
        rw [nI_add, Nat.zero_add]
      exact ok_fs hI (by omega) (by omega) (y_tradersL hI.hR hI.hV hP hPC hft hlen hc (by omega)) (r_tradersL hP hPR hI.hV hlen b (by omega)) FS.rf FS_16
theorem ok_days : Ok mX5_days mX6_days [] := by
  intro M K n hI
  obtain ⟨hP, hPC, hPR⟩ := hI.2.1
  by_cases hf : fdR (M 89) n (n + 1) 0 = -4
  · obtain ⟨M1, s1, c1, t1, z1, e1, f1⟩ := y_days1 hI.hC hI.hG hP hPC (by rw [fd_0]; exact hf) hf
    have e85 := f1 85 (by omega)
    have e84 := f1 84 (by omega)
    have e89 := f1 89 (by omega)
    obtain ⟨M2, s2, p1, p2, p3, p4, p5, p6, p7⟩ := r_days1 (M := M1) hP ⟨by rw [e84]; exact hPR.1, by rw [e89]; exact hPR.2⟩ (by rw [e85]; exact hI.hG) hI.hK (by rw [e84]; exact hI.hk) hf
    rw [e85] at s2 p1 p2
    refine ⟨_, M1, M2, s1.more (by omega), s2.more (by omega), kup K, 0, ?_⟩
    have e0 : M2 0 = M1 0 := p6 0 (by omega) (by omega) (by omega) (by omega)
    refine inv_gen hI c1 f1 e1 (fun c hc => p6 c (by omega) (by omega) (by omega) (by omega)) (p7 5 (by omega) (by omega) (by omega) (by omega) (by omega)) p1 (by rw [p5, recK_kup hI.hK]) (fun i hi j hj => ?_) (hup_all hI.hK hI.hG hI.1.2.2.2) (Good_dyR _ _ _ hI.hG) (InvP_0 ?_ p3) ?_
    · rw [p4, recH_same e85 (f1 87 (by omega)), hr_rec hI.hK hi hj]
    · rw [p6 73 (by omega) (by omega) (by omega) (by omega)]; exact z1
    · have hlt := dyR_lt (P := M 89) (n := n) (n + 1) 0 (M 85)
      have hn60 := hP.1
      unfold InvT
      rw [e0]
      cases hs : (dyR (M 89) n (n + 1) 0 (M 85)).2 with
      | none =>
        rw [hs] at t1 p2
        exact Or.inl ⟨t1, p2.1, p2.2⟩
      | some x =>
        have hx := hlt x hs
        rw [hs] at t1 p2
        exact Or.inr ⟨x.2, by omega, t1.2, p2.2, t1.1.trans p2.1.symm⟩
  · exact ok_same hI (by omega) (by omega) (y_days0 hP hPC (by rw [fd_0]; exact hf)) (r_days0 hP hPR hf)
