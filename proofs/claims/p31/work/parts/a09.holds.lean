theorem bits_76 {w : Int32} (h : vp_in w 64) : sumF (fun k => w >>> (nI k &&& 31) &&& 1) 6 = bits7 w := by
  obtain ⟨j, hj, rfl⟩ := vp_in_of h (by decide)
  have h1 : ∀ j : Fin 64, sumF (fun k => nI j.val >>> (nI k &&& 31) &&& 1) 6 = bits7 (nI j.val) := by decide +kernel
  exact h1 ⟨j, hj⟩
theorem ind_b2i {p : Prop} [Decidable p] : ind p = b2i (decide p) := by
  by_cases h : p
  · rw [ind_T h, b2i_dT h]
  · rw [ind_F h, b2i_dF h]
theorem sum_ind {p : Nat → Prop} [∀ j, Decidable (p j)] (n : Nat) : sumF (fun j => ind (p j)) n = nI (cnB (fun j => decide (p j)) n) := by
  rw [← sumF_b2i]
  exact sumF_congr n (fun j _ => ind_b2i)
theorem cnB_mono {f g : Nat → Bool} : ∀ n, (∀ j, j < n → f j = true → g j = true) → cnB f n ≤ cnB g n
  | 0, _ => Nat.le_refl _
  | n + 1, h => by
    have ih := cnB_mono (f := f) (g := g) n (fun j hj => h j (by omega))
    rw [cnB, cnB]
    by_cases hf : f n = true
    · rw [if_pos hf, if_pos (h n (by omega) hf)]; omega
    · rw [if_neg hf]; omega
theorem kind2_le {V : Row} (hV : WF V) {k : Int32} : ¬ waresV V k < waresV V k - swaresV V k := by
  rw [kind2_eq]
  unfold waresV
  rw [sum_ind, sum_ind]
  have h7 := (WF_n hV).1
  have h1 := cnB_le (f := fun j => decide (V (24 + 5 * j) = k)) (nT V)
  have h2 := cnB_mono (f := fun j => decide (V (24 + 5 * j) = k ∧ ¬ 0 < dli V j)) (g := fun j => decide (V (24 + 5 * j) = k)) (nT V) (fun j _ hj => decide_eq_true (of_decide_eq_true hj).1)
  exact nI_nlt h2 (by omega)
theorem want_eq {V : Row} {k : Nat} : sumF (fun t => V (23 + 5 * t) >>> (nI k &&& 31) &&& 1) (nT V) = wantV V (nI k) := by
  unfold wantV
  refine sumF_congr _ (fun t _ => ?_)
  rcases and1 (V (23 + 5 * t) >>> (nI k &&& 31)) with q | q
  · rw [q]; rfl
  · rw [q]; rfl
theorem met_eq {V : Row} {M : Mem} (hR : RM M 1 V) : sumF (fun k => V (11 + 2 * k)) 6 = V 2 := by
  rw [hR.1.2.2.2.2.2.2.2.2.2]
  show 0 + V 11 + V 13 + V 15 + V 17 + V 19 + V 21 = mSum V
  rw [Int32.zero_add]
  rfl
theorem dl_z2 {V : Row} {t : Nat} (h : dl V t = 0) : ¬ 0 < dli V t := fun q => by
  rw [dl_1 q] at h
  rw [h] at q
  exact absurd q (by decide)
theorem fresh_0 {V : Row} (hG : Good V) (h : nI (nT V) = spoiltV V) : frV V = FP.dconst0 := by
  have h1 := sound_eq hG.1
  rw [(WF_n hG.1).2, h] at h1
  unfold frV
  rw [if_neg]
  rw [h1, Int32.sub_self]
  decide
theorem fresh_1 {V : Row} (hG : Good V) (h : ¬ nI (nT V) = spoiltV V) : 0 < soundV V ∧ nI (nT V) - spoiltV V = soundV V := by
  have h1 := sound_eq hG.1
  rw [(WF_n hG.1).2] at h1
  refine ⟨?_, h1.symm⟩
  rcases Classical.em (0 < soundV V) with q | q
  · exact q
  · have h2 := (fr_ok hG).2.2.mpr q
    rw [h2] at h1
    exact absurd (Int32.sub_eq_iff_eq_add.mp h1.symm) (fun z => h (by rw [z]; exact Int32.zero_add _))
section HO
variable {V : Row} {K : Nat} {h : Nat → Row} {M : Mem} {Q : Mem → Prop} {x2 x3 x4 x5 x6 : Int32}
theorem ho_drop {n t : Nat} {x2 x3 x4 x5 x6 : Int32} {m0 m1 m2 m3 : Option Value} {pc : Nat} {st : List Value} {M : Mem} {r : Option Value} {Q : Mem → Prop} (hh : YQ none 23 mL_holds pc [some (.ref 0), some (.int (nI n)), some (.int x2), some (.int x3), some (.int x4), some (.int x5), some (.int x6), some (.int 1), some (.int (nI t)), none, none, none, none] st M r Q) : YQ none 23 mL_holds pc [some (.ref 0), some (.int (nI n)), some (.int x2), some (.int x3), some (.int x4), some (.int x5), some (.int x6), some (.int 1), some (.int (nI t)), m0, m1, m2, m3] st M r Q := YQ.lsw (fun j v hj => by
  match j, hj with
  | 0, hj => exact hj
  | 1, hj => exact hj
  | 2, hj => exact hj
  | 3, hj => exact hj
  | 4, hj => exact hj
  | 5, hj => exact hj
  | 6, hj => exact hj
  | 7, hj => exact hj
  | 8, hj => exact hj
  | 9, hj => cases hj
  | 10, hj => cases hj
  | 11, hj => cases hj
  | 12, hj => cases hj
  | j + 13, hj => cases hj) hh
theorem ho_bits {t : Nat} (ht : t < nT V) (hk : ∀ M, St V K h M → YQ none 23 mL_holds 89 [some (.ref 0), some (.int (nI (nT V))), some (.int (x2 + sumF (fun k => V (23 + 5 * t) >>> (nI k &&& 31) &&& 1) 6)), some (.int (x3)), some (.int (x4)), some (.int (x5)), some (.int (x6)), some (.int 1), some (.int (nI t)), some (.int (nI 6)), none, none, none] [] M (some (.int 1)) Q) : ∀ (m j : Nat) (M : Mem), j + m = 6 → St V K h M → YQ none 23 mL_holds 61 [some (.ref 0), some (.int (nI (nT V))), some (.int (x2 + sumF (fun k => V (23 + 5 * t) >>> (nI k &&& 31) &&& 1) j)), some (.int (x3)), some (.int (x4)), some (.int (x5)), some (.int (x6)), some (.int 1), some (.int (nI t)), some (.int (nI j)), none, none, none] [] M (some (.int 1)) Q := by
  intro m
  induction m with
  | zero =>
    intro j M hj hS
    have e : j = 6 := by omega
    subst e
    refine q_iload dL_holds_61 rfl ?_
    refine q_bipushv (v := 6) dL_holds_63 (by decide) ?_
    refine q_icmp_ge_t 89 dL_holds_65 (by decide) (by decide) ?_
    exact hk M hS
  | succ m ih =>
    intro j M hj hS
    refine q_iload dL_holds_61 rfl ?_
    refine q_bipushv (v := 6) dL_holds_63 (by decide) ?_
    refine q_icmp_ge_f 89 dL_holds_65 (by decide) (fun q => absurd ((nI_leI (a := 6) (b := j) (by decide) (by omega)).mp q) (by omega)) ?_
    refine q_iload_n dL_holds_68 rfl ?_
    refine q_aload_n dL_holds_69 rfl ?_
    refine q_iload dL_holds_70 rfl ?_
    refine q_iconstv (v := 1) dL_holds_72 (by decide) ?_
    refine q_callV (as := [_, _]) okX5_trader lkL_24 dL_holds_73 rfl (by decide) rfl (q_trader_1 hS ht) (by omega) rfl (by simp [Value.category]) (Nat.le_of_ble_eq_true rfl) rfl rfl (cat8 rfl) (fun M hS => ?_)
    refine q_iload dL_holds_76 rfl ?_
    refine q_ishr dL_holds_78 ?_
    refine q_iconstv (v := 1) dL_holds_79 (by decide) ?_
    refine q_iand dL_holds_80 ?_
    refine q_iadd dL_holds_81 ?_
    rw [Int32.add_assoc]
    refine q_istore_n dL_holds_82 (by decide) rfl ?_
    refine q_iincv (v := 1) dL_holds_83 rfl (by decide) rfl (by decide) ?_
    rw [nI_1]
    refine q_goto 61 dL_holds_86 (by decide) ?_
    exact ih (j + 1) M (by omega) hS
theorem ho_loop1 : ∀ (m t : Nat) (M : Mem), t + m = nT V → St V K h M → (∀ M, St V K h M → YQ none 23 mL_holds 156 [some (.ref 0), some (.int (nI (nT V))), some (.int (sumF (fun t => bits7 (V (23 + 5 * t))) (nT V))), some (.int (sumF (fun t => ind (¬ 0 < dli V t)) (nT V))), some (.int (sumF (fun t => ind (0 < V (23 + 5 * t) ∧ sumF (fun g => b2i (canV V t g)) (nT V) = 0)) (nT V))), some (.int (x5)), some (.int (sumF (fun t => dl V t) (nT V))), some (.int 1), some (.int (nI (nT V))), none, none, none, none] [] M (some (.int 1)) Q) → YQ none 23 mL_holds 39 [some (.ref 0), some (.int (nI (nT V))), some (.int (sumF (fun t => bits7 (V (23 + 5 * t))) t)), some (.int (sumF (fun t => ind (¬ 0 < dli V t)) t)), some (.int (sumF (fun t => ind (0 < V (23 + 5 * t) ∧ sumF (fun g => b2i (canV V t g)) (nT V) = 0)) t)), some (.int (x5)), some (.int (sumF (fun t => dl V t) t)), some (.int 1), some (.int (nI t)), none, none, none, none] [] M (some (.int 1)) Q := by
  intro m
  induction m with
  | zero =>
    intro t M htm hS hk
    have h7 := n_7 hS.W
    have e : t = nT V := by omega
    subst e
    refine q_iload dL_holds_39 rfl ?_
    refine q_iload_n dL_holds_41 rfl ?_
    refine q_icmp_ge_t 156 dL_holds_42 (by decide) (nI_le (Nat.le_refl _) (by omega)) ?_
    exact hk M hS
  | succ m ih =>
    intro t M htm hS hk
    have h7 := n_7 hS.W
    have ht : t < nT V := by omega
    have e3t : ¬ dl V t = 0 → sumF (fun t => ind (¬ 0 < dli V t)) t + 0 = sumF (fun t => ind (¬ 0 < dli V t)) (t + 1) := fun c => by
      show _ = sumF (fun t => ind (¬ 0 < dli V t)) t + ind (¬ 0 < dli V t)
      rw [ind_F (fun q => c (dl_0 q))]
    have e3f : dl V t = 0 → sumF (fun t => ind (¬ 0 < dli V t)) t + 1 = sumF (fun t => ind (¬ 0 < dli V t)) (t + 1) := fun c => by
      show _ = sumF (fun t => ind (¬ 0 < dli V t)) t + ind (¬ 0 < dli V t)
      rw [ind_T (dl_z2 c)]
    have e4a : V (23 + 5 * t) ≤ 0 → sumF (fun t => ind (0 < V (23 + 5 * t) ∧ sumF (fun g => b2i (canV V t g)) (nT V) = 0)) t + 0 = sumF (fun t => ind (0 < V (23 + 5 * t) ∧ sumF (fun g => b2i (canV V t g)) (nT V) = 0)) (t + 1) := fun c => by
      show _ = sumF (fun t => ind (0 < V (23 + 5 * t) ∧ sumF (fun g => b2i (canV V t g)) (nT V) = 0)) t + ind (0 < V (23 + 5 * t) ∧ sumF (fun g => b2i (canV V t g)) (nT V) = 0)
      rw [ind_F (fun q => absurd q.1 (Int32.not_lt.mpr c))]
    have e4b : ¬ sumF (fun g => b2i (canV V t g)) (nT V) = 0 → sumF (fun t => ind (0 < V (23 + 5 * t) ∧ sumF (fun g => b2i (canV V t g)) (nT V) = 0)) t + 0 = sumF (fun t => ind (0 < V (23 + 5 * t) ∧ sumF (fun g => b2i (canV V t g)) (nT V) = 0)) (t + 1) := fun c => by
      show _ = sumF (fun t => ind (0 < V (23 + 5 * t) ∧ sumF (fun g => b2i (canV V t g)) (nT V) = 0)) t + ind (0 < V (23 + 5 * t) ∧ sumF (fun g => b2i (canV V t g)) (nT V) = 0)
      rw [ind_F (fun q => c q.2)]
    have e4c : ¬ V (23 + 5 * t) ≤ 0 → sumF (fun g => b2i (canV V t g)) (nT V) = 0 → sumF (fun t => ind (0 < V (23 + 5 * t) ∧ sumF (fun g => b2i (canV V t g)) (nT V) = 0)) t + 1 = sumF (fun t => ind (0 < V (23 + 5 * t) ∧ sumF (fun g => b2i (canV V t g)) (nT V) = 0)) (t + 1) := fun c d => by
      show _ = sumF (fun t => ind (0 < V (23 + 5 * t) ∧ sumF (fun g => b2i (canV V t g)) (nT V) = 0)) t + ind (0 < V (23 + 5 * t) ∧ sumF (fun g => b2i (canV V t g)) (nT V) = 0)
      rw [ind_T ⟨Int32.not_le.mp c, d⟩]
    have h150 : ∀ (M : Mem) (y4 : Int32), St V K h M → y4 = sumF (fun t => ind (0 < V (23 + 5 * t) ∧ sumF (fun g => b2i (canV V t g)) (nT V) = 0)) (t + 1) → YQ none 23 mL_holds 150 [some (.ref 0), some (.int (nI (nT V))), some (.int (sumF (fun t => bits7 (V (23 + 5 * t))) t + sumF (fun k => V (23 + 5 * t) >>> (nI k &&& 31) &&& 1) 6)), some (.int (sumF (fun t => ind (¬ 0 < dli V t)) (t + 1))), some (.int (y4)), some (.int (x5)), some (.int (sumF (fun t => dl V t) (t + 1))), some (.int 1), some (.int (nI t)), some (.int (nI 6)), none, none, none] [] M (some (.int 1)) Q := by
      intro M y4 hS e4
      have e3 : sumF (fun t => ind (¬ 0 < dli V t)) (t + 1) = sumF (fun t => ind (¬ 0 < dli V t)) (t + 1) := rfl
      refine q_iincv (v := 1) dL_holds_150 rfl (by decide) rfl (by decide) ?_
      rw [nI_1]
      refine q_goto 39 dL_holds_153 (by decide) ?_
      refine ho_drop ?_
      have f2 : sumF (fun t => bits7 (V (23 + 5 * t))) t + sumF (fun k => V (23 + 5 * t) >>> (nI k &&& 31) &&& 1) 6 = sumF (fun t => bits7 (V (23 + 5 * t))) (t + 1) := by rw [bits_76 (hS.W.2.1 t ht).2.1]; rfl
      rw [f2, e3, e4]
      exact ih (t + 1) M (by omega) hS hk
    have h107 : ∀ (M : Mem) (y3 : Int32), St V K h M → y3 = sumF (fun t => ind (¬ 0 < dli V t)) (t + 1) → YQ none 23 mL_holds 107 [some (.ref 0), some (.int (nI (nT V))), some (.int (sumF (fun t => bits7 (V (23 + 5 * t))) t + sumF (fun k => V (23 + 5 * t) >>> (nI k &&& 31) &&& 1) 6)), some (.int (y3)), some (.int (sumF (fun t => ind (0 < V (23 + 5 * t) ∧ sumF (fun g => b2i (canV V t g)) (nT V) = 0)) t)), some (.int (x5)), some (.int (sumF (fun t => dl V t) t)), some (.int 1), some (.int (nI t)), some (.int (nI 6)), none, none, none] [] M (some (.int 1)) Q := by
      intro M y3 hS e3
      rw [e3]
      refine q_iload dL_holds_107 rfl ?_
      refine q_aload_n dL_holds_109 rfl ?_
      refine q_iload dL_holds_110 rfl ?_
      refine q_iconstv (v := 4) dL_holds_112 (by decide) ?_
      refine q_callV (as := [_, _]) okX5_trader lkL_24 dL_holds_113 rfl (by decide) rfl (q_trader_4 hS ht) (by omega) rfl (by simp [Value.category]) (Nat.le_of_ble_eq_true rfl) rfl rfl (cat8 rfl) (fun M hS => ?_)
      refine q_iadd dL_holds_116 ?_
      refine q_istore dL_holds_117 (by decide) rfl ?_
      refine q_iload dL_holds_119 rfl ?_
      refine q_aload_n dL_holds_121 rfl ?_
      refine q_iload dL_holds_122 rfl ?_
      refine q_iconstv (v := 1) dL_holds_124 (by decide) ?_
      refine q_callV (as := [_, _]) okX5_trader lkL_24 dL_holds_125 rfl (by decide) rfl (q_trader_1 hS ht) (by omega) rfl (by simp [Value.category]) (Nat.le_of_ble_eq_true rfl) rfl rfl (cat8 rfl) (fun M hS => ?_)
      refine q_if_le 146 dL_holds_128 (by decide) (fun c_128 => ?_) (fun c_128 => ?_)
      · refine q_iconstv (v := 0) dL_holds_146 (by decide) ?_
        refine q_iadd dL_holds_147 ?_
        refine q_istore dL_holds_148 (by decide) rfl ?_
        exact h150 M _ hS (e4a c_128)
      · refine q_aload_n dL_holds_131 rfl ?_
        refine q_iload dL_holds_132 rfl ?_
        refine q_bipushv (v := 7) dL_holds_134 (by decide) ?_
        refine q_callV (as := [_, _]) okX5_trader lkL_24 dL_holds_136 rfl (by decide) rfl (q_trader_7 hS ht) (by omega) rfl (by simp [Value.category]) (Nat.le_of_ble_eq_true rfl) rfl rfl (cat8 rfl) (fun M hS => ?_)
        refine q_if_ne 146 dL_holds_139 (by decide) (fun c_139 => ?_) (fun c_139 => ?_)
        · refine q_iconstv (v := 0) dL_holds_146 (by decide) ?_
          refine q_iadd dL_holds_147 ?_
          refine q_istore dL_holds_148 (by decide) rfl ?_
          exact h150 M _ hS (e4b c_139)
        · refine q_iconstv (v := 1) dL_holds_142 (by decide) ?_
          refine q_goto 147 dL_holds_143 (by decide) ?_
          refine q_iadd dL_holds_147 ?_
          refine q_istore dL_holds_148 (by decide) rfl ?_
          exact h150 M _ hS (e4c c_128 c_139)
    refine q_iload dL_holds_39 rfl ?_
    refine q_iload_n dL_holds_41 rfl ?_
    refine q_icmp_ge_f 156 dL_holds_42 (by decide) (fun q => absurd ((nI_leI (a := nT V) (b := t) (by omega) (by omega)).mp q) (by omega)) ?_
    refine q_iload dL_holds_45 rfl ?_
    refine q_if_eq_f 156 dL_holds_47 (by decide) (by decide) ?_
    refine q_aload_n dL_holds_50 rfl ?_
    refine q_iload dL_holds_51 rfl ?_
    refine q_callS (as := [_, _]) okL_isTrader lkL_71 dL_holds_53 rfl (q_isTrader hS ht) (by omega) rfl (by simp [Value.category]) (Nat.le_of_ble_eq_true rfl) (cat8 rfl) (fun M hS => ?_)
    refine q_istore dL_holds_56 (by decide) rfl ?_
    refine q_iconstv (v := 0) dL_holds_58 (by decide) ?_
    refine q_istore dL_holds_59 (by decide) rfl ?_
    have e0 : sumF (fun t => bits7 (V (23 + 5 * t))) t = sumF (fun t => bits7 (V (23 + 5 * t))) t + sumF (fun k => V (23 + 5 * t) >>> (nI k &&& 31) &&& 1) 0 := (Int32.add_zero _).symm
    rw [e0]
    refine ho_bits ht (fun M hS => ?_) 6 0 M (by omega) hS
    refine q_iload_n dL_holds_89 rfl ?_
    refine q_aload_n dL_holds_90 rfl ?_
    refine q_iload dL_holds_91 rfl ?_
    refine q_iconstv (v := 4) dL_holds_93 (by decide) ?_
    refine q_callV (as := [_, _]) okX5_trader lkL_24 dL_holds_94 rfl (by decide) rfl (q_trader_4 hS ht) (by omega) rfl (by simp [Value.category]) (Nat.le_of_ble_eq_true rfl) rfl rfl (cat8 rfl) (fun M hS => ?_)
    refine q_if_ne 104 dL_holds_97 (by decide) (fun c_97 => ?_) (fun c_97 => ?_)
    · refine q_iconstv (v := 0) dL_holds_104 (by decide) ?_
      refine q_iadd dL_holds_105 ?_
      refine q_istore_n dL_holds_106 (by decide) rfl ?_
      exact h107 M _ hS (e3t c_97)
    · refine q_iconstv (v := 1) dL_holds_100 (by decide) ?_
      refine q_goto 105 dL_holds_101 (by decide) ?_
      refine q_iadd dL_holds_105 ?_
      refine q_istore_n dL_holds_106 (by decide) rfl ?_
      exact h107 M _ hS (e3f c_97)
theorem ho_kinds {k : Nat} (hk : ∀ M, St V K h M → YQ none 23 mL_holds 256 [some (.ref 0), some (.int (nI (nT V))), some (.int (x2)), some (.int (x3)), some (.int (x4)), some (.int (x5)), some (.int (x6)), some (.int 1), some (.int (nI k)), some (.int (sumF (fun t => ind (V (24 + 5 * t) = nI k)) (nT V))), some (.int (sumF (fun t => ind (V (22 + 5 * t) = nI k)) (nT V))), some (.int (sumF (fun t => V (23 + 5 * t) >>> (nI k &&& 31) &&& 1) (nT V))), some (.int (nI (nT V)))] [] M (some (.int 1)) Q) : ∀ (m t : Nat) (M : Mem), t + m = nT V → St V K h M → YQ none 23 mL_holds 183 [some (.ref 0), some (.int (nI (nT V))), some (.int (x2)), some (.int (x3)), some (.int (x4)), some (.int (x5)), some (.int (x6)), some (.int 1), some (.int (nI k)), some (.int (sumF (fun t => ind (V (24 + 5 * t) = nI k)) t)), some (.int (sumF (fun t => ind (V (22 + 5 * t) = nI k)) t)), some (.int (sumF (fun t => V (23 + 5 * t) >>> (nI k &&& 31) &&& 1) t)), some (.int (nI t))] [] M (some (.int 1)) Q := by
  intro m
  induction m with
  | zero =>
    intro t M htm hS
    have h7 := n_7 hS.W
    have e : t = nT V := by omega
    subst e
    refine q_iload dL_holds_183 rfl ?_
    refine q_iload_n dL_holds_185 rfl ?_
    refine q_icmp_ge_t 256 dL_holds_186 (by decide) (nI_le (Nat.le_refl _) (by omega)) ?_
    exact hk M hS
  | succ m ih =>
    intro t M htm hS
    have h7 := n_7 hS.W
    have ht : t < nT V := by omega
    have ew0 : ¬ V (24 + 5 * t) = nI k → sumF (fun t => ind (V (24 + 5 * t) = nI k)) t + 0 = sumF (fun t => ind (V (24 + 5 * t) = nI k)) (t + 1) := fun c => by
      show _ = sumF (fun t => ind (V (24 + 5 * t) = nI k)) t + ind (V (24 + 5 * t) = nI k)
      rw [ind_F c]
    have ew1 : V (24 + 5 * t) = nI k → sumF (fun t => ind (V (24 + 5 * t) = nI k)) t + 1 = sumF (fun t => ind (V (24 + 5 * t) = nI k)) (t + 1) := fun c => by
      show _ = sumF (fun t => ind (V (24 + 5 * t) = nI k)) t + ind (V (24 + 5 * t) = nI k)
      rw [ind_T c]
    have em0 : ¬ V (22 + 5 * t) = nI k → sumF (fun t => ind (V (22 + 5 * t) = nI k)) t + 0 = sumF (fun t => ind (V (22 + 5 * t) = nI k)) (t + 1) := fun c => by
      show _ = sumF (fun t => ind (V (22 + 5 * t) = nI k)) t + ind (V (22 + 5 * t) = nI k)
      rw [ind_F c]
    have em1 : V (22 + 5 * t) = nI k → sumF (fun t => ind (V (22 + 5 * t) = nI k)) t + 1 = sumF (fun t => ind (V (22 + 5 * t) = nI k)) (t + 1) := fun c => by
      show _ = sumF (fun t => ind (V (22 + 5 * t) = nI k)) t + ind (V (22 + 5 * t) = nI k)
      rw [ind_T c]
    have h233 : ∀ (M : Mem) (y10 : Int32), St V K h M → y10 = sumF (fun t => ind (V (22 + 5 * t) = nI k)) (t + 1) → YQ none 23 mL_holds 233 [some (.ref 0), some (.int (nI (nT V))), some (.int (x2)), some (.int (x3)), some (.int (x4)), some (.int (x5)), some (.int (x6)), some (.int 1), some (.int (nI k)), some (.int (sumF (fun t => ind (V (24 + 5 * t) = nI k)) (t + 1))), some (.int (y10)), some (.int (sumF (fun t => V (23 + 5 * t) >>> (nI k &&& 31) &&& 1) t)), some (.int (nI t))] [] M (some (.int 1)) Q := by
      intro M y10 hS e10
      rw [e10]
      refine q_iload dL_holds_233 rfl ?_
      refine q_aload_n dL_holds_235 rfl ?_
      refine q_iload dL_holds_236 rfl ?_
      refine q_iconstv (v := 1) dL_holds_238 (by decide) ?_
      refine q_callV (as := [_, _]) okX5_trader lkL_24 dL_holds_239 rfl (by decide) rfl (q_trader_1 hS ht) (by omega) rfl (by simp [Value.category]) (Nat.le_of_ble_eq_true rfl) rfl rfl (cat8 rfl) (fun M hS => ?_)
      refine q_iload dL_holds_242 rfl ?_
      refine q_ishr dL_holds_244 ?_
      refine q_iconstv (v := 1) dL_holds_245 (by decide) ?_
      refine q_iand dL_holds_246 ?_
      refine q_iadd dL_holds_247 ?_
      refine q_istore dL_holds_248 (by decide) rfl ?_
      refine q_iincv (v := 1) dL_holds_250 rfl (by decide) rfl (by decide) ?_
      rw [nI_1]
      refine q_goto 183 dL_holds_253 (by decide) ?_
      exact ih (t + 1) M (by omega) hS
    have h211 : ∀ (M : Mem) (y9 : Int32), St V K h M → y9 = sumF (fun t => ind (V (24 + 5 * t) = nI k)) (t + 1) → YQ none 23 mL_holds 211 [some (.ref 0), some (.int (nI (nT V))), some (.int (x2)), some (.int (x3)), some (.int (x4)), some (.int (x5)), some (.int (x6)), some (.int 1), some (.int (nI k)), some (.int (y9)), some (.int (sumF (fun t => ind (V (22 + 5 * t) = nI k)) t)), some (.int (sumF (fun t => V (23 + 5 * t) >>> (nI k &&& 31) &&& 1) t)), some (.int (nI t))] [] M (some (.int 1)) Q := by
      intro M y9 hS e9
      rw [e9]
      refine q_iload dL_holds_211 rfl ?_
      refine q_aload_n dL_holds_213 rfl ?_
      refine q_iload dL_holds_214 rfl ?_
      refine q_iconstv (v := 0) dL_holds_216 (by decide) ?_
      refine q_callV (as := [_, _]) okX5_trader lkL_24 dL_holds_217 rfl (by decide) rfl (q_trader_0 hS ht) (by omega) rfl (by simp [Value.category]) (Nat.le_of_ble_eq_true rfl) rfl rfl (cat8 rfl) (fun M hS => ?_)
      refine q_iload dL_holds_220 rfl ?_
      refine q_icmp_ne 229 dL_holds_222 (by decide) (fun c_222 => ?_) (fun c_222 => ?_)
      · refine q_iconstv (v := 0) dL_holds_229 (by decide) ?_
        refine q_iadd dL_holds_230 ?_
        refine q_istore dL_holds_231 (by decide) rfl ?_
        exact h233 M _ hS (em0 c_222)
      · refine q_iconstv (v := 1) dL_holds_225 (by decide) ?_
        refine q_goto 230 dL_holds_226 (by decide) ?_
        refine q_iadd dL_holds_230 ?_
        refine q_istore dL_holds_231 (by decide) rfl ?_
        exact h233 M _ hS (em1 c_222)
    refine q_iload dL_holds_183 rfl ?_
    refine q_iload_n dL_holds_185 rfl ?_
    refine q_icmp_ge_f 256 dL_holds_186 (by decide) (fun q => absurd ((nI_leI (a := nT V) (b := t) (by omega) (by omega)).mp q) (by omega)) ?_
    refine q_iload dL_holds_189 rfl ?_
    refine q_aload_n dL_holds_191 rfl ?_
    refine q_iload dL_holds_192 rfl ?_
    refine q_iconstv (v := 2) dL_holds_194 (by decide) ?_
    refine q_callV (as := [_, _]) okX5_trader lkL_24 dL_holds_195 rfl (by decide) rfl (q_trader_2 hS ht) (by omega) rfl (by simp [Value.category]) (Nat.le_of_ble_eq_true rfl) rfl rfl (cat8 rfl) (fun M hS => ?_)
    refine q_iload dL_holds_198 rfl ?_
    refine q_icmp_ne 207 dL_holds_200 (by decide) (fun c_200 => ?_) (fun c_200 => ?_)
    · refine q_iconstv (v := 0) dL_holds_207 (by decide) ?_
      refine q_iadd dL_holds_208 ?_
      refine q_istore dL_holds_209 (by decide) rfl ?_
      exact h211 M _ hS (ew0 c_200)
    · refine q_iconstv (v := 1) dL_holds_203 (by decide) ?_
      refine q_goto 208 dL_holds_204 (by decide) ?_
      refine q_iadd dL_holds_208 ?_
      refine q_istore dL_holds_209 (by decide) rfl ?_
      exact h211 M _ hS (ew1 c_200)
theorem ho_loop2 : ∀ (m k : Nat) (M : Mem), k + m = 6 → St V K h M → (∀ M, St V K h M → YQ none 23 mL_holds 329 [some (.ref 0), some (.int (nI (nT V))), some (.int (x2)), some (.int (x3)), some (.int (x4)), some (.int (sumF (fun k => V (11 + 2 * k)) 6)), some (.int (x6)), some (.int 1), some (.int (nI 6)), none, none, none, none] [] M (some (.int 1)) Q) → YQ none 23 mL_holds 159 [some (.ref 0), some (.int (nI (nT V))), some (.int (x2)), some (.int (x3)), some (.int (x4)), some (.int (sumF (fun k => V (11 + 2 * k)) k)), some (.int (x6)), some (.int 1), some (.int (nI k)), none, none, none, none] [] M (some (.int 1)) Q := by
  intro m
  induction m with
  | zero =>
    intro k M hkm hS hk
    have e : k = 6 := by omega
    subst e
    refine q_iload dL_holds_159 rfl ?_
    refine q_bipushv (v := 6) dL_holds_161 (by decide) ?_
    refine q_icmp_ge_t 329 dL_holds_163 (by decide) (by decide) ?_
    exact hk M hS
  | succ m ih =>
    intro k M hkm hS hk
    have hk6 : k < 6 := by omega
    refine q_iload dL_holds_159 rfl ?_
    refine q_bipushv (v := 6) dL_holds_161 (by decide) ?_
    refine q_icmp_ge_f 329 dL_holds_163 (by decide) (fun q => absurd ((nI_leI (a := 6) (b := k) (by decide) (by omega)).mp q) (by omega)) ?_
    refine q_iload dL_holds_166 rfl ?_
    refine q_if_eq_f 329 dL_holds_168 (by decide) (by decide) ?_
    refine q_iconstv (v := 0) dL_holds_171 (by decide) ?_
    refine q_istore dL_holds_172 (by decide) rfl ?_
    refine q_iconstv (v := 0) dL_holds_174 (by decide) ?_
    refine q_istore dL_holds_175 (by decide) rfl ?_
    refine q_iconstv (v := 0) dL_holds_177 (by decide) ?_
    refine q_istore dL_holds_178 (by decide) rfl ?_
    refine q_iconstv (v := 0) dL_holds_180 (by decide) ?_
    refine q_istore dL_holds_181 (by decide) rfl ?_
    refine ho_kinds (fun M hS => ?_) (nT V) 0 M (by omega) hS
    refine q_iload dL_holds_256 rfl ?_
    refine q_aload_n dL_holds_258 rfl ?_
    refine q_iload dL_holds_259 rfl ?_
    refine q_iconstv (v := 5) dL_holds_261 (by decide) ?_
    refine q_callV (as := [_, _]) okX5_kind lkL_33 dL_holds_262 rfl (by decide) rfl (q_kind_5 hS hk6) (by omega) rfl (by simp [Value.category]) (Nat.le_of_ble_eq_true rfl) rfl rfl (cat8 rfl) (fun M hS => ?_)
    refine q_iadd dL_holds_265 ?_
    refine q_istore dL_holds_266 (by decide) rfl ?_
    refine q_aload_n dL_holds_268 rfl ?_
    refine q_iload dL_holds_269 rfl ?_
    refine q_iconstv (v := 1) dL_holds_271 (by decide) ?_
    refine q_callV (as := [_, _]) okX5_kind lkL_33 dL_holds_272 rfl (by decide) rfl (q_kind_1 hS hk6) (by omega) rfl (by simp [Value.category]) (Nat.le_of_ble_eq_true rfl) rfl rfl (cat8 rfl) (fun M hS => ?_)
    refine q_iload dL_holds_275 rfl ?_
    refine q_icmp_ne_f 320 dL_holds_277 (by decide) rfl ?_
    refine q_aload_n dL_holds_280 rfl ?_
    refine q_iload dL_holds_281 rfl ?_
    refine q_iconstv (v := 2) dL_holds_283 (by decide) ?_
    refine q_callV (as := [_, _]) okX5_kind lkL_33 dL_holds_284 rfl (by decide) rfl (q_kind_2 hS hk6) (by omega) rfl (by simp [Value.category]) (Nat.le_of_ble_eq_true rfl) rfl rfl (cat8 rfl) (fun M hS => ?_)
    refine q_iload dL_holds_287 rfl ?_
    refine q_icmp_gt_f 320 dL_holds_289 (by decide) (kind2_le hS.W) ?_
    refine q_aload_n dL_holds_292 rfl ?_
    refine q_iload dL_holds_293 rfl ?_
    refine q_iconstv (v := 3) dL_holds_295 (by decide) ?_
    refine q_callV (as := [_, _]) okX5_kind lkL_33 dL_holds_296 rfl (by decide) rfl (q_kind_3 hS hk6) (by omega) rfl (by simp [Value.category]) (Nat.le_of_ble_eq_true rfl) rfl rfl (cat8 rfl) (fun M hS => ?_)
    refine q_iload dL_holds_299 rfl ?_
    refine q_icmp_ne_f 320 dL_holds_301 (by decide) want_eq.symm ?_
    refine q_aload_n dL_holds_304 rfl ?_
    refine q_iload dL_holds_305 rfl ?_
    refine q_iconstv (v := 4) dL_holds_307 (by decide) ?_
    refine q_callV (as := [_, _]) okX5_kind lkL_33 dL_holds_308 rfl (by decide) rfl (q_kind_4 hS hk6) (by omega) rfl (by simp [Value.category]) (Nat.le_of_ble_eq_true rfl) rfl rfl (cat8 rfl) (fun M hS => ?_)
    refine q_iload dL_holds_311 rfl ?_
    refine q_icmp_ne_f 320 dL_holds_313 (by decide) rfl ?_
    refine q_iconstv (v := 1) dL_holds_316 (by decide) ?_
    refine q_goto 321 dL_holds_317 (by decide) ?_
    refine q_istore dL_holds_321 (by decide) rfl ?_
    refine q_iincv (v := 1) dL_holds_323 rfl (by decide) rfl (by decide) ?_
    rw [nI_1]
    refine q_goto 159 dL_holds_326 (by decide) ?_
    exact ho_drop (ih (k + 1) M (by omega) hS hk)
theorem q_holds (hS : St V K h M) : YQ none 23 mL_holds 0 (lent 13 [.ref 0]) [] M (some (.int 1)) (St V K h) := by
  have h7 := n_7 hS.W
  have hG := hS.G
  have ec0 : nI (nT V) = spoiltV V → FP.dcmp (frV V) FP.dconst0 = some .eq := fun c => by
    have e := (fr_ok hG).2.1
    rw [fresh_0 hG c] at e ⊢
    exact e
  have ec1 : ¬ nI (nT V) = spoiltV V → FP.dcmp (frV V) (FP.ddiv (FP.i2d (daysV V)) (FP.i2d (nI (nT V) - spoiltV V))) = some .eq := fun c => by
    have e := (fr_ok hG).2.1
    rw [(fresh_1 hG c).2]
    have e2 : frV V = FP.ddiv (FP.i2d (daysV V)) (FP.i2d (soundV V)) := by
      unfold frV
      rw [if_pos (fresh_1 hG c).1]
    rw [← e2]
    exact e
  have ecv0 : nI (nT V) = spoiltV V → Op.cmpValue (FP.dcmp (frV V) FP.dconst0) .l = 0 := fun c => by rw [ec0 c]; rfl
  have ecv1 : ¬ nI (nT V) = spoiltV V → Op.cmpValue (FP.dcmp (frV V) (FP.ddiv (FP.i2d (daysV V)) (FP.i2d (nI (nT V) - spoiltV V)))) .l = 0 := fun c => by rw [ec1 c]; rfl
  have hnan : ¬ nI (nT V) = spoiltV V → vf_n64 (FP.ddiv (FP.i2d (daysV V)) (FP.i2d (nI (nT V) - spoiltV V))) := fun c => by
    rw [(fresh_1 hG c).2]
    exact (fr_ok hG).1 (fresh_1 hG c).1
  skip
  refine q_aload_n dL_holds_0 rfl ?_
  refine q_iconstv (v := 1) dL_holds_1 (by decide) ?_
  refine q_callV (as := [_]) okX5_count lkL_9 dL_holds_2 rfl (by decide) rfl (q_count_1 hS) (by omega) rfl (by simp [Value.category]) (Nat.le_of_ble_eq_true rfl) rfl rfl (cat8 rfl) (fun M hS => ?_)
  refine q_istore_n dL_holds_5 (by decide) rfl ?_
  refine q_iconstv (v := 0) dL_holds_6 (by decide) ?_
  refine q_istore_n dL_holds_7 (by decide) rfl ?_
  refine q_iconstv (v := 0) dL_holds_8 (by decide) ?_
  refine q_istore_n dL_holds_9 (by decide) rfl ?_
  refine q_iconstv (v := 0) dL_holds_10 (by decide) ?_
  refine q_istore dL_holds_11 (by decide) rfl ?_
  refine q_iconstv (v := 0) dL_holds_13 (by decide) ?_
  refine q_istore dL_holds_14 (by decide) rfl ?_
  refine q_iconstv (v := 0) dL_holds_16 (by decide) ?_
  refine q_istore dL_holds_17 (by decide) rfl ?_
  refine q_aload_n dL_holds_19 rfl ?_
  refine q_iload_n dL_holds_20 rfl ?_
  refine q_iconstv (v := 0) dL_holds_21 (by decide) ?_
  refine q_callV (as := [_, _]) okX5_trader lkL_24 dL_holds_22 rfl (by decide) rfl (q_trader_n hS) (by omega) rfl (by simp [Value.category]) (Nat.le_of_ble_eq_true rfl) rfl rfl (cat8 rfl) (fun M hS => ?_)
  refine q_iconstv (v := -1) dL_holds_25 (by decide) ?_
  refine q_icmp_ne_f 33 dL_holds_26 (by decide) (by decide) ?_
  refine q_iconstv (v := 1) dL_holds_29 (by decide) ?_
  refine q_goto 34 dL_holds_30 (by decide) ?_
  refine q_istore dL_holds_34 (by decide) rfl ?_
  refine q_iconstv (v := 0) dL_holds_36 (by decide) ?_
  refine q_istore dL_holds_37 (by decide) rfl ?_
  refine ho_loop1 (nT V) 0 M (by omega) hS (fun M hS => ?_)
  refine q_iconstv (v := 0) dL_holds_156 (by decide) ?_
  refine q_istore dL_holds_157 (by decide) rfl ?_
  refine ho_loop2 6 0 M (by omega) hS (fun M hS => ?_)
  refine q_iload dL_holds_329 rfl ?_
  refine q_if_eq_f 395 dL_holds_331 (by decide) (by decide) ?_
  refine q_iload_n dL_holds_334 rfl ?_
  refine q_aload_n dL_holds_335 rfl ?_
  refine q_iconstv (v := 2) dL_holds_336 (by decide) ?_
  refine q_callV (as := [_]) okX5_count lkL_9 dL_holds_337 rfl (by decide) rfl (q_count_2 hS) (by omega) rfl (by simp [Value.category]) (Nat.le_of_ble_eq_true rfl) rfl rfl (cat8 rfl) (fun M hS => ?_)
  refine q_icmp_ne_f 395 dL_holds_340 (by decide) rfl ?_
  refine q_iload dL_holds_343 rfl ?_
  refine q_aload_n dL_holds_345 rfl ?_
  refine q_iconstv (v := 3) dL_holds_346 (by decide) ?_
  refine q_callV (as := [_]) okX5_count lkL_9 dL_holds_347 rfl (by decide) rfl (q_count_3 hS) (by omega) rfl (by simp [Value.category]) (Nat.le_of_ble_eq_true rfl) rfl rfl (cat8 rfl) (fun M hS => ?_)
  refine q_icmp_ne_f 395 dL_holds_350 (by decide) (met_eq hS.R) ?_
  refine q_iload_n dL_holds_353 rfl ?_
  refine q_iload_n dL_holds_354 rfl ?_
  refine q_isub dL_holds_355 ?_
  refine q_aload_n dL_holds_356 rfl ?_
  refine q_iconstv (v := 4) dL_holds_357 (by decide) ?_
  refine q_callV (as := [_]) okX5_count lkL_9 dL_holds_358 rfl (by decide) rfl (q_count_4 hS) (by omega) rfl (by simp [Value.category]) (Nat.le_of_ble_eq_true rfl) rfl rfl (cat8 rfl) (fun M hS => ?_)
  refine q_icmp_ne_f 395 dL_holds_361 (by decide) (by rw [sound_eq hS.W, V1_n hS.W]; rfl) ?_
  refine q_iload_n dL_holds_364 rfl ?_
  refine q_aload_n dL_holds_365 rfl ?_
  refine q_iconstv (v := 5) dL_holds_366 (by decide) ?_
  refine q_callV (as := [_]) okX5_count lkL_9 dL_holds_367 rfl (by decide) rfl (q_count_5 hS) (by omega) rfl (by simp [Value.category]) (Nat.le_of_ble_eq_true rfl) rfl rfl (cat8 rfl) (fun M hS => ?_)
  refine q_icmp_ne_f 395 dL_holds_370 (by decide) rfl ?_
  refine q_iload dL_holds_373 rfl ?_
  refine q_aload_n dL_holds_375 rfl ?_
  refine q_bipushv (v := 10) dL_holds_376 (by decide) ?_
  refine q_callV (as := [_]) okX5_count lkL_9 dL_holds_378 rfl (by decide) rfl (q_count_10 hS) (by omega) rfl (by simp [Value.category]) (Nat.le_of_ble_eq_true rfl) rfl rfl (cat8 rfl) (fun M hS => ?_)
  refine q_icmp_ne_f 395 dL_holds_381 (by decide) (stuck_eq hS.W).symm ?_
  refine q_aload_n dL_holds_384 rfl ?_
  refine q_callS (as := [_]) okL_isBest lkL_75 dL_holds_385 rfl (q_isBest hS) (by omega) rfl (by simp [Value.category]) (Nat.le_of_ble_eq_true rfl) (cat8 rfl) (fun M hS => ?_)
  refine q_if_eq_f 395 dL_holds_388 (by decide) (by decide) ?_
  refine q_iconstv (v := 1) dL_holds_391 (by decide) ?_
  refine q_goto 396 dL_holds_392 (by decide) ?_
  refine q_istore dL_holds_396 (by decide) rfl ?_
  refine q_iload dL_holds_398 rfl ?_
  refine q_if_eq_f 432 dL_holds_400 (by decide) (by decide) ?_
  refine q_aload_n dL_holds_403 rfl ?_
  refine q_callV0 okX5_freshness lkL_79 dL_holds_404 (by decide) rfl (q_fresh hS) (by omega) (Nat.le_of_ble_eq_true rfl) rfl rfl (cat8 rfl) (fun M hS => ?_)
  refine q_iload_n dL_holds_407 rfl ?_
  refine q_iload_n dL_holds_408 rfl ?_
  refine q_icmp_ne 416 dL_holds_409 (by decide) (fun c_409 => ?_) (fun c_409 => ?_)
  · refine q_iload dL_holds_416 rfl ?_
    refine q_i2d dL_holds_418 ?_
    refine q_iload_n dL_holds_419 rfl ?_
    refine q_iload_n dL_holds_420 rfl ?_
    refine q_isub dL_holds_421 ?_
    refine q_i2d dL_holds_422 ?_
    refine q_ddiv (hnan c_409) dL_holds_423 ?_
    refine q_dcmp dL_holds_424 ?_
    refine q_if_ne_f 432 dL_holds_425 (by decide) (ecv1 c_409) ?_
    refine q_iconstv (v := 1) dL_holds_428 (by decide) ?_
    refine q_goto 433 dL_holds_429 (by decide) ?_
    exact q_ret dL_holds_433 rfl (rfl) (rfl) hS
  · refine q_dconst0 dL_holds_412 ?_
    refine q_goto 424 dL_holds_413 (by decide) ?_
    refine q_dcmp dL_holds_424 ?_
    refine q_if_ne_f 432 dL_holds_425 (by decide) (ecv0 c_409) ?_
    refine q_iconstv (v := 1) dL_holds_428 (by decide) ?_
    refine q_goto 433 dL_holds_429 (by decide) ?_
    exact q_ret dL_holds_433 rfl (rfl) (rfl) hS
end HO
