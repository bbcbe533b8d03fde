/-- how many needs each trader has met, bounded -/
def MB (V : Row) (c : Nat) : Prop := ∀ j, j < nT V → vp_in (V (26 + 5 * j)) (c + 1)
/-- what holds between the law's changes -/
def Post (c : Nat) (M : Mem) : Prop := ∃ V K h, St V K h M ∧ MB V c
theorem MB.le {V : Row} {c d : Nat} (h : MB V c) (hd : c ≤ d) : MB V d := fun j hj => vpin_le (h j hj) (by omega)
theorem add1_in {x : Int32} {n : Nat} (h : vp_in x n) (hn : n + 1 < 2 ^ 31) : vp_in (x + 1) (n + 1) := by
  obtain ⟨a, ha, rfl⟩ := vp_in_of h (by omega)
  rw [nI_1]
  exact vp_in_nI (by omega) hn
theorem MB_gets {V : Row} {t k c : Nat} {a : Int32} (hk : k < 6) (j : Nat) : getsV V t k a (26 + 5 * j) = if j = t then V (26 + 5 * t) + 1 else V (26 + 5 * j) := gets_4 hk
theorem bart_met {V : Row} (hV : WF V) {a b j : Nat} (ha : a < nT V) (hb : b < nT V) (hab : a ≠ b) (h0 : rsn V a b = 0) : bartV V a b (26 + 5 * j) = if j = a ∨ j = b then V (26 + 5 * j) + 1 else V (26 + 5 * j) := by
  unfold bartV
  rw [if_pos h0, gets_4 (kd_lt hV ha), gets_4 (kd_lt hV hb), gets_4 (kd_lt hV hb), if_neg (Ne.symm hab)]
  by_cases h1 : j = b
  · subst h1
    rw [if_pos rfl, if_pos (Or.inr rfl)]
  · rw [if_neg h1]
    by_cases h2 : j = a
    · subst h2
      rw [if_pos rfl, if_pos (Or.inl rfl)]
    · rw [if_neg h2, if_neg (fun q => q.elim h2 h1)]
theorem MB_bart {V : Row} (hV : WF V) {a b c : Nat} (ha : a < nT V) (hb : b < nT V) (hab : a ≠ b) (hB : MB V c) (hc : c + 2 < 2 ^ 31) : MB (bartV V a b) (c + 1) := by
  intro j hj
  rw [nT_bart] at hj
  by_cases h0 : rsn V a b = 0
  · rw [bart_met hV ha hb hab h0]
    split
    · exact add1_in (hB j hj) (by omega)
    · exact vpin_le (hB j hj) (by omega)
  · unfold bartV
    rw [if_neg h0, pk_un (by omega)]
    exact vpin_le (hB j hj) (by omega)
theorem bart_6 {V : Row} {a b : Nat} (h0 : ¬ rsn V a b = 0) : bartV V a b 6 = V 6 + 1 ∧ bartV V a b 2 = V 2 := by
  unfold bartV
  rw [if_neg h0]
  exact ⟨pk_us, pk_un (by omega)⟩
theorem bart_2 {V : Row} (hV : WF V) {a b : Nat} (ha : a < nT V) (hb : b < nT V) (h0 : rsn V a b = 0) : bartV V a b 2 = V 2 + 2 := by
  unfold bartV
  rw [if_pos h0, gets_lo (by omega) (kd_lt hV ha), if_pos rfl, gets_lo (by omega) (kd_lt hV hb), if_pos rfl, Int32.add_assoc]
  rfl
theorem bart_w {V : Row} (hV : WF V) {a b : Nat} (ha : a < nT V) (hb : b < nT V) (hab : a ≠ b) (h0 : rsn V a b = 0) : bartV V a b (24 + 5 * a) = nI (kd V b) ∧ bartV V a b (24 + 5 * b) = nI (kd V a) ∧ bartV V a b (25 + 5 * b) = V (25 + 5 * a) := by
  unfold bartV
  rw [if_pos h0, gets_2 (kd_lt hV ha), gets_2 (kd_lt hV ha), gets_3 (kd_lt hV ha), gets_2 (kd_lt hV hb), if_neg hab, if_pos rfl, if_pos rfl, if_pos rfl]
  exact ⟨rfl, rfl, rfl⟩
theorem bit_gone {x : Int32} {k : Nat} (hk : k < 6) : (x &&& (1 <<< (nI k &&& 31) ^^^ -1)) >>> (nI k &&& 31) &&& 1 = 0 := by
  rw [sh_half (by omega), bit_and, bit_not (by omega), bit_one (by omega) (by omega)]
  simp
theorem bart_n {V : Row} (hV : WF V) {a b : Nat} (ha : a < nT V) (hb : b < nT V) (hab : a ≠ b) (h0 : rsn V a b = 0) : bartV V a b (23 + 5 * a) >>> (nI (kd V b) &&& 31) &&& 1 = 0 ∧ bartV V a b (23 + 5 * b) >>> (nI (kd V a) &&& 31) &&& 1 = 0 := by
  unfold bartV
  rw [if_pos h0]
  refine ⟨?_, ?_⟩
  · rw [gets_1 (kd_lt hV ha), if_neg hab, gets_1 (kd_lt hV hb), if_pos rfl]
    exact bit_gone (kd_lt hV hb)
  · rw [gets_1 (kd_lt hV ha), if_pos rfl]
    exact bit_gone (kd_lt hV ha)
section BA
variable {V : Row} {K : Nat} {h : Nat → Row} {M : Mem} {a b c : Nat}
theorem q_barters0 (hS : St V K h M) (hB : MB V c) (ha : a ≤ nT V) (hb : b ≤ nT V) (hab : a = nT V ∨ b = nT V ∨ a = b) : YQ none 21 mL_barters 0 (lent 10 [.ref 0, .int (nI a), .int (nI b)]) [] M (some (.int 1)) (Post (c + 1)) := by
  skip
  refine q_aload_n dL_barters_0 rfl ?_
  refine q_iload_n dL_barters_1 rfl ?_
  refine q_iload_n dL_barters_2 rfl ?_
  refine q_callV (as := [_, _]) okX5_whyNot lkL_59 dL_barters_3 rfl (by decide) rfl (q_whyNot0 hS ha hb hab) (by omega) rfl (by simp [Value.category]) (Nat.le_of_ble_eq_true rfl) rfl rfl (cat8 rfl) (fun M hS => ?_)
  refine q_istore_n dL_barters_6 (by decide) rfl ?_
  refine q_aload_n dL_barters_7 rfl ?_
  refine q_iconstv (v := 3) dL_barters_8 (by decide) ?_
  refine q_callV (as := [_]) okX5_count lkL_9 dL_barters_9 rfl (by decide) rfl (q_count_3 hS) (by omega) rfl (by simp [Value.category]) (Nat.le_of_ble_eq_true rfl) rfl rfl (cat8 rfl) (fun M hS => ?_)
  refine q_istore dL_barters_12 (by decide) rfl ?_
  refine q_aload_n dL_barters_14 rfl ?_
  refine q_bipushv (v := 9) dL_barters_15 (by decide) ?_
  refine q_callV (as := [_]) okX5_count lkL_9 dL_barters_17 rfl (by decide) rfl (q_count_9 hS) (by omega) rfl (by simp [Value.category]) (Nat.le_of_ble_eq_true rfl) rfl rfl (cat8 rfl) (fun M hS => ?_)
  refine q_istore dL_barters_20 (by decide) rfl ?_
  refine q_iload_n dL_barters_22 rfl ?_
  refine q_if_ge_f 30 dL_barters_23 (by decide) (by decide) ?_
  refine q_iconstv (v := 0) dL_barters_26 (by decide) ?_
  refine q_goto 36 dL_barters_27 (by decide) ?_
  refine q_istore dL_barters_36 (by decide) rfl ?_
  refine q_iload_n dL_barters_38 rfl ?_
  refine q_if_ge_f 46 dL_barters_39 (by decide) (by decide) ?_
  refine q_iconstv (v := 0) dL_barters_42 (by decide) ?_
  refine q_goto 52 dL_barters_43 (by decide) ?_
  refine q_istore dL_barters_52 (by decide) rfl ?_
  refine q_iload_n dL_barters_54 rfl ?_
  refine q_if_ge_f 62 dL_barters_55 (by decide) (by decide) ?_
  refine q_iconstv (v := 0) dL_barters_58 (by decide) ?_
  refine q_goto 68 dL_barters_59 (by decide) ?_
  refine q_istore dL_barters_68 (by decide) rfl ?_
  refine q_aload_n dL_barters_70 rfl ?_
  refine q_iload_n dL_barters_71 rfl ?_
  refine q_iload_n dL_barters_72 rfl ?_
  refine q_callV (as := [_, _]) okX5_barter lkL_62 dL_barters_73 rfl (by decide) rfl (q_barter0 hS ha hb hab) (by omega) rfl (by simp [Value.category]) (Nat.le_of_ble_eq_true rfl) rfl rfl (cat8 rfl) (fun M hS => ?_)
  refine q_istore dL_barters_76 (by decide) rfl ?_
  refine q_iload_n dL_barters_78 rfl ?_
  refine q_if_eq_f 125 dL_barters_79 (by decide) (by decide) ?_
  refine q_iload dL_barters_82 rfl ?_
  refine q_iload_n dL_barters_84 rfl ?_
  refine q_icmp_ne_f 123 dL_barters_85 (by decide) (by decide) ?_
  refine q_aload_n dL_barters_88 rfl ?_
  refine q_bipushv (v := 9) dL_barters_89 (by decide) ?_
  refine q_callV (as := [_]) okX5_count lkL_9 dL_barters_91 rfl (by decide) rfl (q_count_9 hS) (by omega) rfl (by simp [Value.category]) (Nat.le_of_ble_eq_true rfl) rfl rfl (cat8 rfl) (fun M hS => ?_)
  refine q_iload dL_barters_94 rfl ?_
  refine q_iload_n dL_barters_96 rfl ?_
  refine q_if_le_t 104 dL_barters_97 (by decide) (by decide) ?_
  refine q_iconstv (v := 0) dL_barters_104 (by decide) ?_
  refine q_iadd dL_barters_105 ?_
  refine q_icmp_ne_f 123 dL_barters_106 (by decide) (Int32.add_zero _).symm ?_
  refine q_aload_n dL_barters_109 rfl ?_
  refine q_iconstv (v := 3) dL_barters_110 (by decide) ?_
  refine q_callV (as := [_]) okX5_count lkL_9 dL_barters_111 rfl (by decide) rfl (q_count_3 hS) (by omega) rfl (by simp [Value.category]) (Nat.le_of_ble_eq_true rfl) rfl rfl (cat8 rfl) (fun M hS => ?_)
  refine q_iload dL_barters_114 rfl ?_
  refine q_icmp_ne_f 123 dL_barters_116 (by decide) rfl ?_
  refine q_iconstv (v := 1) dL_barters_119 (by decide) ?_
  refine q_goto 124 dL_barters_120 (by decide) ?_
  exact q_ret dL_barters_124 rfl (rfl) (rfl) ⟨V, K, h, hS, hB.le (by omega)⟩
theorem q_barters1 (hS : St V K h M) (hB : MB V c) (hc : c + 2 < 2 ^ 31) (ha : a < nT V) (hb : b < nT V) (hab : a ≠ b) (h0 : ¬ rsn V a b = 0) : YQ none 21 mL_barters 0 (lent 10 [.ref 0, .int (nI a), .int (nI b)]) [] M (some (.int 1)) (Post (c + 1)) := by
  have hS0 := hS
  have hp : 0 < rsn V a b := (rsn_01 V a b).resolve_left h0
  have hp2 : 0 ≤ rsn V a b := Int32.le_of_lt hp
  have hr : bartR V a b = rsn V a b := if_neg h0
  skip
  refine q_aload_n dL_barters_0 rfl ?_
  refine q_iload_n dL_barters_1 rfl ?_
  refine q_iload_n dL_barters_2 rfl ?_
  refine q_callV (as := [_, _]) okX5_whyNot lkL_59 dL_barters_3 rfl (by decide) rfl (q_whyNot1 hS ha hb hab) (by omega) rfl (by simp [Value.category]) (Nat.le_of_ble_eq_true rfl) rfl rfl (cat8 rfl) (fun M hS => ?_)
  refine q_istore_n dL_barters_6 (by decide) rfl ?_
  refine q_aload_n dL_barters_7 rfl ?_
  refine q_iconstv (v := 3) dL_barters_8 (by decide) ?_
  refine q_callV (as := [_]) okX5_count lkL_9 dL_barters_9 rfl (by decide) rfl (q_count_3 hS) (by omega) rfl (by simp [Value.category]) (Nat.le_of_ble_eq_true rfl) rfl rfl (cat8 rfl) (fun M hS => ?_)
  refine q_istore dL_barters_12 (by decide) rfl ?_
  refine q_aload_n dL_barters_14 rfl ?_
  refine q_bipushv (v := 9) dL_barters_15 (by decide) ?_
  refine q_callV (as := [_]) okX5_count lkL_9 dL_barters_17 rfl (by decide) rfl (q_count_9 hS) (by omega) rfl (by simp [Value.category]) (Nat.le_of_ble_eq_true rfl) rfl rfl (cat8 rfl) (fun M hS => ?_)
  refine q_istore dL_barters_20 (by decide) rfl ?_
  refine q_iload_n dL_barters_22 rfl ?_
  refine q_if_ge_t 30 dL_barters_23 (by decide) hp2 ?_
  refine q_aload_n dL_barters_30 rfl ?_
  refine q_iload_n dL_barters_31 rfl ?_
  refine q_iconstv (v := 2) dL_barters_32 (by decide) ?_
  refine q_callV (as := [_, _]) okX5_trader lkL_24 dL_barters_33 rfl (by decide) rfl (q_trader_2n hS ha) (by omega) rfl (by simp [Value.category]) (Nat.le_of_ble_eq_true rfl) rfl rfl (cat8 rfl) (fun M hS => ?_)
  refine q_istore dL_barters_36 (by decide) rfl ?_
  refine q_iload_n dL_barters_38 rfl ?_
  refine q_if_ge_t 46 dL_barters_39 (by decide) hp2 ?_
  refine q_aload_n dL_barters_46 rfl ?_
  refine q_iload_n dL_barters_47 rfl ?_
  refine q_iconstv (v := 3) dL_barters_48 (by decide) ?_
  refine q_callV (as := [_, _]) okX5_trader lkL_24 dL_barters_49 rfl (by decide) rfl (q_trader_3 hS ha) (by omega) rfl (by simp [Value.category]) (Nat.le_of_ble_eq_true rfl) rfl rfl (cat8 rfl) (fun M hS => ?_)
  refine q_istore dL_barters_52 (by decide) rfl ?_
  refine q_iload_n dL_barters_54 rfl ?_
  refine q_if_ge_t 62 dL_barters_55 (by decide) hp2 ?_
  refine q_aload_n dL_barters_62 rfl ?_
  refine q_iload_n dL_barters_63 rfl ?_
  refine q_iconstv (v := 2) dL_barters_64 (by decide) ?_
  refine q_callV (as := [_, _]) okX5_trader lkL_24 dL_barters_65 rfl (by decide) rfl (q_trader_2n hS hb) (by omega) rfl (by simp [Value.category]) (Nat.le_of_ble_eq_true rfl) rfl rfl (cat8 rfl) (fun M hS => ?_)
  refine q_istore dL_barters_68 (by decide) rfl ?_
  refine q_aload_n dL_barters_70 rfl ?_
  refine q_iload_n dL_barters_71 rfl ?_
  refine q_iload_n dL_barters_72 rfl ?_
  refine q_callV (as := [_, _]) okX5_barter lkL_62 dL_barters_73 rfl (by decide) rfl (q_barter1 hS ha hb hab) (by omega) rfl (by simp [Value.category]) (Nat.le_of_ble_eq_true rfl) rfl rfl (cat8 rfl) (fun M hS => ?_)
  refine q_istore dL_barters_76 (by decide) rfl ?_
  refine q_iload_n dL_barters_78 rfl ?_
  refine q_if_eq_f 125 dL_barters_79 (by decide) h0 ?_
  refine q_iload dL_barters_82 rfl ?_
  refine q_iload_n dL_barters_84 rfl ?_
  refine q_icmp_ne_f 123 dL_barters_85 (by decide) hr ?_
  refine q_aload_n dL_barters_88 rfl ?_
  refine q_bipushv (v := 9) dL_barters_89 (by decide) ?_
  refine q_callV (as := [_]) okX5_count lkL_9 dL_barters_91 rfl (by decide) rfl (q_count_9 hS) (by omega) rfl (by simp [Value.category]) (Nat.le_of_ble_eq_true rfl) rfl rfl (cat8 rfl) (fun M hS => ?_)
  refine q_iload dL_barters_94 rfl ?_
  refine q_iload_n dL_barters_96 rfl ?_
  refine q_if_le_f 104 dL_barters_97 (by decide) (Int32.not_le.mpr hp) ?_
  refine q_iconstv (v := 1) dL_barters_100 (by decide) ?_
  refine q_goto 105 dL_barters_101 (by decide) ?_
  refine q_iadd dL_barters_105 ?_
  refine q_icmp_ne_f 123 dL_barters_106 (by decide) (bart_6 h0).1 ?_
  refine q_aload_n dL_barters_109 rfl ?_
  refine q_iconstv (v := 3) dL_barters_110 (by decide) ?_
  refine q_callV (as := [_]) okX5_count lkL_9 dL_barters_111 rfl (by decide) rfl (q_count_3 hS) (by omega) rfl (by simp [Value.category]) (Nat.le_of_ble_eq_true rfl) rfl rfl (cat8 rfl) (fun M hS => ?_)
  refine q_iload dL_barters_114 rfl ?_
  refine q_icmp_ne_f 123 dL_barters_116 (by decide) (bart_6 h0).2 ?_
  refine q_iconstv (v := 1) dL_barters_119 (by decide) ?_
  refine q_goto 124 dL_barters_120 (by decide) ?_
  exact q_ret dL_barters_124 rfl (rfl) (rfl) ⟨_, _, _, hS, MB_bart hS0.W ha hb hab hB hc⟩
theorem q_barters2 (hS : St V K h M) (hB : MB V c) (hc : c + 2 < 2 ^ 31) (ha : a < nT V) (hb : b < nT V) (hab : a ≠ b) (h0 : rsn V a b = 0) : YQ none 21 mL_barters 0 (lent 10 [.ref 0, .int (nI a), .int (nI b)]) [] M (some (.int 1)) (Post (c + 1)) := by
  have hS0 := hS
  have hp2 : 0 ≤ rsn V a b := by rw [h0]; exact Int32.le_refl _
  have hr : bartR V a b = 10 := if_pos h0
  have hV := hS.W
  skip
  refine q_aload_n dL_barters_0 rfl ?_
  refine q_iload_n dL_barters_1 rfl ?_
  refine q_iload_n dL_barters_2 rfl ?_
  refine q_callV (as := [_, _]) okX5_whyNot lkL_59 dL_barters_3 rfl (by decide) rfl (q_whyNot1 hS ha hb hab) (by omega) rfl (by simp [Value.category]) (Nat.le_of_ble_eq_true rfl) rfl rfl (cat8 rfl) (fun M hS => ?_)
  refine q_istore_n dL_barters_6 (by decide) rfl ?_
  refine q_aload_n dL_barters_7 rfl ?_
  refine q_iconstv (v := 3) dL_barters_8 (by decide) ?_
  refine q_callV (as := [_]) okX5_count lkL_9 dL_barters_9 rfl (by decide) rfl (q_count_3 hS) (by omega) rfl (by simp [Value.category]) (Nat.le_of_ble_eq_true rfl) rfl rfl (cat8 rfl) (fun M hS => ?_)
  refine q_istore dL_barters_12 (by decide) rfl ?_
  refine q_aload_n dL_barters_14 rfl ?_
  refine q_bipushv (v := 9) dL_barters_15 (by decide) ?_
  refine q_callV (as := [_]) okX5_count lkL_9 dL_barters_17 rfl (by decide) rfl (q_count_9 hS) (by omega) rfl (by simp [Value.category]) (Nat.le_of_ble_eq_true rfl) rfl rfl (cat8 rfl) (fun M hS => ?_)
  refine q_istore dL_barters_20 (by decide) rfl ?_
  refine q_iload_n dL_barters_22 rfl ?_
  refine q_if_ge_t 30 dL_barters_23 (by decide) hp2 ?_
  refine q_aload_n dL_barters_30 rfl ?_
  refine q_iload_n dL_barters_31 rfl ?_
  refine q_iconstv (v := 2) dL_barters_32 (by decide) ?_
  refine q_callV (as := [_, _]) okX5_trader lkL_24 dL_barters_33 rfl (by decide) rfl (q_trader_2n hS ha) (by omega) rfl (by simp [Value.category]) (Nat.le_of_ble_eq_true rfl) rfl rfl (cat8 rfl) (fun M hS => ?_)
  refine q_istore dL_barters_36 (by decide) rfl ?_
  refine q_iload_n dL_barters_38 rfl ?_
  refine q_if_ge_t 46 dL_barters_39 (by decide) hp2 ?_
  refine q_aload_n dL_barters_46 rfl ?_
  refine q_iload_n dL_barters_47 rfl ?_
  refine q_iconstv (v := 3) dL_barters_48 (by decide) ?_
  refine q_callV (as := [_, _]) okX5_trader lkL_24 dL_barters_49 rfl (by decide) rfl (q_trader_3 hS ha) (by omega) rfl (by simp [Value.category]) (Nat.le_of_ble_eq_true rfl) rfl rfl (cat8 rfl) (fun M hS => ?_)
  refine q_istore dL_barters_52 (by decide) rfl ?_
  refine q_iload_n dL_barters_54 rfl ?_
  refine q_if_ge_t 62 dL_barters_55 (by decide) hp2 ?_
  refine q_aload_n dL_barters_62 rfl ?_
  refine q_iload_n dL_barters_63 rfl ?_
  refine q_iconstv (v := 2) dL_barters_64 (by decide) ?_
  refine q_callV (as := [_, _]) okX5_trader lkL_24 dL_barters_65 rfl (by decide) rfl (q_trader_2n hS hb) (by omega) rfl (by simp [Value.category]) (Nat.le_of_ble_eq_true rfl) rfl rfl (cat8 rfl) (fun M hS => ?_)
  refine q_istore dL_barters_68 (by decide) rfl ?_
  refine q_aload_n dL_barters_70 rfl ?_
  refine q_iload_n dL_barters_71 rfl ?_
  refine q_iload_n dL_barters_72 rfl ?_
  refine q_callV (as := [_, _]) okX5_barter lkL_62 dL_barters_73 rfl (by decide) rfl (q_barter1 hS ha hb hab) (by omega) rfl (by simp [Value.category]) (Nat.le_of_ble_eq_true rfl) rfl rfl (cat8 rfl) (fun M hS => ?_)
  have ha2 := ha; rw [← nT_bart (a := a) (b := b)] at ha2
  have hb2 := hb; rw [← nT_bart (a := a) (b := b)] at hb2
  refine q_istore dL_barters_76 (by decide) rfl ?_
  refine q_iload_n dL_barters_78 rfl ?_
  refine q_if_eq_t 125 dL_barters_79 (by decide) h0 ?_
  refine q_iload dL_barters_125 rfl ?_
  refine q_bipushv (v := 10) dL_barters_127 (by decide) ?_
  refine q_icmp_ne_f 209 dL_barters_129 (by decide) hr ?_
  refine q_aload_n dL_barters_132 rfl ?_
  refine q_iconstv (v := 3) dL_barters_133 (by decide) ?_
  refine q_callV (as := [_]) okX5_count lkL_9 dL_barters_134 rfl (by decide) rfl (q_count_3 hS) (by omega) rfl (by simp [Value.category]) (Nat.le_of_ble_eq_true rfl) rfl rfl (cat8 rfl) (fun M hS => ?_)
  refine q_iload dL_barters_137 rfl ?_
  refine q_iconstv (v := 2) dL_barters_139 (by decide) ?_
  refine q_iadd dL_barters_140 ?_
  refine q_icmp_ne_f 209 dL_barters_141 (by decide) (bart_2 hV ha hb h0) ?_
  refine q_aload_n dL_barters_144 rfl ?_
  refine q_iload_n dL_barters_145 rfl ?_
  refine q_iconstv (v := 2) dL_barters_146 (by decide) ?_
  refine q_callV (as := [_, _]) okX5_trader lkL_24 dL_barters_147 rfl (by decide) rfl (q_trader_2 hS ha2) (by omega) rfl (by simp [Value.category]) (Nat.le_of_ble_eq_true rfl) rfl rfl (cat8 rfl) (fun M hS => ?_)
  refine q_iload dL_barters_150 rfl ?_
  refine q_icmp_ne_f 209 dL_barters_152 (by decide) (bart_w hV ha hb hab h0).1 ?_
  refine q_aload_n dL_barters_155 rfl ?_
  refine q_iload_n dL_barters_156 rfl ?_
  refine q_iconstv (v := 2) dL_barters_157 (by decide) ?_
  refine q_callV (as := [_, _]) okX5_trader lkL_24 dL_barters_158 rfl (by decide) rfl (q_trader_2 hS hb2) (by omega) rfl (by simp [Value.category]) (Nat.le_of_ble_eq_true rfl) rfl rfl (cat8 rfl) (fun M hS => ?_)
  refine q_iload dL_barters_161 rfl ?_
  refine q_icmp_ne_f 209 dL_barters_163 (by decide) (bart_w hV ha hb hab h0).2.1 ?_
  refine q_aload_n dL_barters_166 rfl ?_
  refine q_iload_n dL_barters_167 rfl ?_
  refine q_iconstv (v := 3) dL_barters_168 (by decide) ?_
  refine q_callV (as := [_, _]) okX5_trader lkL_24 dL_barters_169 rfl (by decide) rfl (q_trader_3 hS hb2) (by omega) rfl (by simp [Value.category]) (Nat.le_of_ble_eq_true rfl) rfl rfl (cat8 rfl) (fun M hS => ?_)
  refine q_iload dL_barters_172 rfl ?_
  refine q_icmp_ne_f 209 dL_barters_174 (by decide) (bart_w hV ha hb hab h0).2.2 ?_
  refine q_aload_n dL_barters_177 rfl ?_
  refine q_iload_n dL_barters_178 rfl ?_
  refine q_iconstv (v := 1) dL_barters_179 (by decide) ?_
  refine q_callV (as := [_, _]) okX5_trader lkL_24 dL_barters_180 rfl (by decide) rfl (q_trader_1 hS ha2) (by omega) rfl (by simp [Value.category]) (Nat.le_of_ble_eq_true rfl) rfl rfl (cat8 rfl) (fun M hS => ?_)
  refine q_iload dL_barters_183 rfl ?_
  refine q_ishr dL_barters_185 ?_
  refine q_iconstv (v := 1) dL_barters_186 (by decide) ?_
  refine q_iand dL_barters_187 ?_
  refine q_if_ne_f 209 dL_barters_188 (by decide) (bart_n hV ha hb hab h0).1 ?_
  refine q_aload_n dL_barters_191 rfl ?_
  refine q_iload_n dL_barters_192 rfl ?_
  refine q_iconstv (v := 1) dL_barters_193 (by decide) ?_
  refine q_callV (as := [_, _]) okX5_trader lkL_24 dL_barters_194 rfl (by decide) rfl (q_trader_1 hS hb2) (by omega) rfl (by simp [Value.category]) (Nat.le_of_ble_eq_true rfl) rfl rfl (cat8 rfl) (fun M hS => ?_)
  refine q_iload dL_barters_197 rfl ?_
  refine q_ishr dL_barters_199 ?_
  refine q_iconstv (v := 1) dL_barters_200 (by decide) ?_
  refine q_iand dL_barters_201 ?_
  refine q_if_ne_f 209 dL_barters_202 (by decide) (bart_n hV ha hb hab h0).2 ?_
  refine q_iconstv (v := 1) dL_barters_205 (by decide) ?_
  refine q_goto 210 dL_barters_206 (by decide) ?_
  exact q_ret dL_barters_210 rfl (rfl) (rfl) ⟨_, _, _, hS, MB_bart hS0.W ha hb hab hB hc⟩
theorem q_barters (hS : St V K h M) (hB : MB V c) (hc : c + 2 < 2 ^ 31) (ha : a ≤ nT V) (hb : b ≤ nT V) : YQ none 21 mL_barters 0 (lent 10 [.ref 0, .int (nI a), .int (nI b)]) [] M (some (.int 1)) (Post (c + 1)) := by
  by_cases hx : a = nT V ∨ b = nT V ∨ a = b
  · exact q_barters0 hS hB ha hb hx
  · by_cases h0 : rsn V a b = 0
    · exact q_barters2 hS hB hc (by omega) (by omega) (by omega) h0
    · exact q_barters1 hS hB hc (by omega) (by omega) (by omega) h0
end BA
