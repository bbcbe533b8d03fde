theorem q_sld {d : Nat} {μ : Md} {pc : Nat} {ls : List (Option Value)} {st : List Value} {M : Mem} {r : Option Value} {Q : Mem → Prop} {L : Nat} {xs : Nat → Int32} {i : Int32} (hd : decode μ.1 pc = .ok (.iaload, 1)) (hi : vp_in i L) (k : YQ (some (L, xs)) d μ (pc + 1) ls (.int (xs i.toNatClampNeg) :: st) M r Q) : YQ (some (L, xs)) d μ pc ls (.int i :: .ref scrId :: st) M r Q := let ⟨M9, y1, y2⟩ := k; ⟨M9, x_sld hd hi y1, y2⟩
theorem q_slen {d : Nat} {μ : Md} {pc : Nat} {ls : List (Option Value)} {st : List Value} {M : Mem} {r : Option Value} {Q : Mem → Prop} {L : Nat} {xs : Nat → Int32} (hd : decode μ.1 pc = .ok (.arraylength, 1)) (k : YQ (some (L, xs)) d μ (pc + 1) ls (.int (nI L) :: st) M r Q) : YQ (some (L, xs)) d μ pc ls (.ref scrId :: st) M r Q := let ⟨M9, y1, y2⟩ := k; ⟨M9, x_slen hd y1, y2⟩
theorem low_and (x : Int32) : ∃ a, a < 2 ^ 31 ∧ x &&& 2147483647 = nI a := by
  have h : ¬ (x &&& 2147483647) < 0 := by
    intro h
    have h1 : (x &&& 2147483647).toBitVec.toInt < 0 := Int32.lt_iff_toInt_lt.mp h
    have e : (x &&& 2147483647).toBitVec.toNat ≤ 2147483647 := by
      show (x.toBitVec &&& 2147483647#32).toNat ≤ _
      rw [BitVec.toNat_and]
      exact Nat.and_le_right
    have e2 := BitVec.toInt_eq_toNat_of_lt (x := (x &&& 2147483647).toBitVec) (by omega)
    omega
  obtain ⟨j, hj, e⟩ := nI_of h
  exact ⟨j, hj, e⟩
def lowN (v : Int32) (n : Nat) : Nat := (v &&& 2147483647).toNatClampNeg % n
theorem lowN_lt {v : Int32} {n : Nat} (h : 0 < n) : lowN v n < n := Nat.mod_lt _ h
theorem lowN_eq {v : Int32} {n : Nat} (h : 0 < n) (hn : n < 2 ^ 31) : rem32 (v &&& 2147483647) (nI n) = nI (lowN v n) := by
  obtain ⟨a, ha, e⟩ := low_and v
  unfold lowN
  rw [e, nI_clamp ha]
  exact rem_nI ha h hn
theorem q_low {v : Int32} {n : Nat} {M : Mem} {Q : Mem → Prop} (hQ : Q M) (h : 0 < n) (hn : n < 2 ^ 31) : YQ none 0 mL_low 0 (lent 2 [.int v, .int (nI n)]) [] M (some (.int (nI (lowN v n)))) Q := by
  have hz : ¬ nI n = 0 := fun q => absurd ((nI_eq (a := n) (b := 0) hn (by decide)).mp q) (by omega)
  skip
  refine q_iload_n dL_low_0 rfl ?_
  refine q_ldc dL_low_1 kkL_8 ?_
  refine q_iand dL_low_3 ?_
  refine q_iload_n dL_low_4 rfl ?_
  refine q_irem hz dL_low_5 ?_
  exact q_ret dL_low_6 rfl (rfl) (lowN_eq h hn) hQ
theorem x_cell {L : Nat} {xs : Nat → Int32} (hL : L ≤ 260) {j : Nat} (hj : j < 2 ^ 31) {M : Mem} : ∃ v : Int32, X (some (L, xs)) 0 mL_cell 0 (lent 2 [.ref scrId, .int (nI j)]) [] (emb M) (some (.int v)) (emb M) := by
  have h0 : ∀ {v : Int32} {Q : Mem → Prop}, YQ (some (L, xs)) 0 mL_cell 0 (lent 2 [.ref scrId, .int (nI j)]) [] M (some (.int v)) (fun M9 => M9 = M) → X (some (L, xs)) 0 mL_cell 0 (lent 2 [.ref scrId, .int (nI j)]) [] (emb M) (some (.int v)) (emb M) := fun h => by
    obtain ⟨M9, h1, rfl⟩ := h
    exact h1
  by_cases hlt : j < L
  · refine ⟨xs j, h0 (Q := fun _ => True) ?_⟩
    refine q_iload_n dL_cell_0 rfl ?_
    refine q_aload_n dL_cell_1 rfl ?_
    refine q_slen dL_cell_2 ?_
    refine q_icmp_ge_f 12 dL_cell_3 (by decide) (fun q => absurd ((nI_leI (a := L) (b := j) (by omega) hj).mp q) (by omega)) ?_
    refine q_aload_n dL_cell_6 rfl ?_
    refine q_iload_n dL_cell_7 rfl ?_
    refine q_sld dL_cell_8 (vp_in_nI hlt (by omega)) ?_
    rw [nI_clamp hj]
    refine q_goto 20 dL_cell_9 (by decide) ?_
    exact q_ret dL_cell_20 rfl rfl rfl rfl
  · refine ⟨40503 * nI j + 977, h0 (Q := fun _ => True) ?_⟩
    refine q_iload_n dL_cell_0 rfl ?_
    refine q_aload_n dL_cell_1 rfl ?_
    refine q_slen dL_cell_2 ?_
    refine q_icmp_ge_t 12 dL_cell_3 (by decide) (nI_le (a := L) (b := j) (by omega) hj) ?_
    refine q_ldc dL_cell_12 kkL_7 ?_
    refine q_iload_n dL_cell_14 rfl ?_
    refine q_imul dL_cell_15 ?_
    refine q_sipushv (v := 977) dL_cell_16 (by decide) ?_
    refine q_iadd dL_cell_19 ?_
    exact q_ret dL_cell_20 rfl rfl rfl rfl
