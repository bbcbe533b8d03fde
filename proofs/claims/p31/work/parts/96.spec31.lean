theorem InvM_fr {M M' : Mem} {K : Nat} (h : InvM M K) (hc : ∀ c, (1 ≤ c ∧ c ≤ 8) ∨ (31 ≤ c ∧ c ≤ 72) ∨ c = 85 ∨ c = 87 → M' c = M c) (h3 : M' 84 3 = M 84 3) : InvM M' K := by
  obtain ⟨⟨a1, a2⟩, b, c, d⟩ := h
  refine ⟨?_, by rw [hc 85 (by omega)]; exact b, by rw [h3]; exact c, by rw [hc 87 (by omega)]; exact d⟩
  rw [hc 85 (by omega), hc 87 (by omega)]
  exact ⟨RM_congr (fun c x y => hc c (by omega)) a1, HC_fr (fun c x y => hc c (by omega)) a2⟩
