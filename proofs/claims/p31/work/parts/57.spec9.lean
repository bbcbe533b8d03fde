theorem pl_of_q {V : Row} {i : Nat} : (pl V i).1 = upd (upd (qV V i) 3 ((pl V i).1 3)) 4 ((pl V i).1 4) := by
  funext x
  simp only [qV, pd2, pd1, upd]
  grind
theorem nT_pl {V : Row} {i : Nat} : nT (pl V i).1 = nT V := by
  rw [pl_of_q, nT_upd (by omega), nT_upd (by omega), nT_q]
theorem Good_pl {V : Row} (hV : Good V) {i : Nat} (hi : i ≤ nT V) : Good (pl V i).1 := by
  rw [pl_of_q]
  exact ⟨WF_up (WF_up (WF_q hV hi) (by omega)) (by omega), WFa_up (WFa_up (Good_q hV i hi).2 (by omega) (by omega)) (by omega) (by omega)⟩
def cllV (V : Row) (g : Nat → Option Nat) : Row := upd (dbV V g (nT V)) 5 (dbV V g (nT V) 5 + 1)
theorem WF_call {V : Row} (hV : WF V) {g : Nat → Option Nat} (hg : ∀ i q, i < nT V → g i = some q → q < nT V) : WF (cllV V g) := WF_up (WF_db hV hg _ (Nat.le_refl _)) (by omega)
theorem nT_call {V : Row} {g : Nat → Option Nat} : nT (cllV V g) = nT V := by
  unfold cllV
  rw [nT_upd (by omega), nT_db]
theorem RM_call {M : Mem} {o : Nat} {V : Row} (hR : RM M o V) : RM (inc M o 14) o (upd V 5 (V 5 + 1)) := by
  obtain ⟨⟨r7, r8, r9, r10, r11, r12, r13, r14, r15, r2⟩, rk, rt⟩ := hR
  have hn : nT (upd V 5 (V 5 + 1)) = nT V := nT_upd (by omega)
  refine ⟨?_, fun j hj => ?_, fun j hj => ?_⟩
  · rw [hn]
    simp only [inc, updM, upd, mSum]
    simp only [mSum] at r2
    grind
  · have := rk j hj
    simp only [inc, updM, upd]
    grind
  · rw [hn] at hj
    have := rt j hj
    simp only [inc, updM, upd]
    grind
