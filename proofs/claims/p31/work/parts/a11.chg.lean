theorem and_63 (x : Int32) : vp_in (x &&& 63) 64 := by
  have e : (x &&& 63).toBitVec.toNat ≤ 63 := by
    show (x.toBitVec &&& 63#32).toNat ≤ _
    rw [BitVec.toNat_and]
    exact Nat.and_le_right
  have e2 := BitVec.toInt_eq_toNat_of_lt (x := (x &&& 63).toBitVec) (by omega)
  have h0 : ¬ (x &&& 63) < 0 := fun q => by
    have h1 : (x &&& 63).toBitVec.toInt < 0 := Int32.lt_iff_toInt_lt.mp q
    omega
  obtain ⟨j, hj, e3⟩ := nI_of h0
  rw [e3] at e2 e ⊢
  have h4 : (nI j).toBitVec.toInt = (j : Int) := nI_toInt hj
  exact vp_in_nI (by omega) (by decide)
theorem vp_pos {x : Int32} {n : Nat} (h : vp_in x n) : ¬ x < 0 := fun q => h (Or.inl q)
theorem MB_upd {V : Row} {i : Nat} {x : Int32} {c : Nat} (hB : MB V c) (h1 : i ≠ 1) (h : ∀ j, i ≠ 26 + 5 * j) : MB (upd V i x) c := by
  intro j hj
  rw [nT_upd h1] at hj
  rw [pk_un (h j).symm]
  exact hB j hj
theorem MB_come {V : Row} (hV : WF V) (h6 : nT V < 7) {c : Nat} {mk w : Int32} (hB : MB V c) : MB (comeV V mk w) c := by
  intro j hj
  rw [(nT_come hV h6).1] at hj
  rw [come_hi.2.2.2.2]
  by_cases h : j = nT V
  · rw [if_pos h]
    exact vpin_le (n := 1) (vp_in_nI (n := 0) (by omega) (by omega)) (by omega)
  · rw [if_neg h]
    exact hB j (by omega)
theorem MB_go {V : Row} (hV : WF V) {t : Nat} (ht : t < nT V) {c : Nat} (hB : MB V c) : MB (goV V t) c := by
  intro j hj
  rw [(nT_go hV ht).1] at hj
  have a4 := go_hi (w := 4) ht hj (by omega)
  rw [show 26 + 5 * j = 22 + 4 + 5 * j by omega, a4, show 22 + 4 + 5 * (if j < t then j else j + 1) = 26 + 5 * (if j < t then j else j + 1) by omega]
  exact hB _ (by split <;> omega)
section CH
variable {V V' : Row} {K : Nat} {h h' : Nat → Row} {M : Mem} {t c n : Nat} {x1 a b x7 x8 : Int32}
theorem ch_drop {n K t : Nat} {x1 a b x7 x8 : Int32} {m0 m1 m2 m3 m4 m5 m6 m7 : Option Value} {pc : Nat} {st : List Value} {M : Mem} {r : Option Value} {Q : Mem → Prop} (hh : YQ none 23 mL_change pc [some (.ref 0), some (.int x1), some (.int a), some (.int b), some (.int (nI n)), some (.int (nI K)), some (.int (nI t)), some (.int x7), some (.int x8), some (.int 1), none, none, none, none, none, none, none, none] st M r Q) : YQ none 23 mL_change pc [some (.ref 0), some (.int x1), some (.int a), some (.int b), some (.int (nI n)), some (.int (nI K)), some (.int (nI t)), some (.int x7), some (.int x8), some (.int 1), m0, m1, m2, m3, m4, m5, m6, m7] st M r Q := YQ.lsw (fun j v hj => by
  match j, hj with
  | 0, hj => exact hj
  | 1, hj => exact hj
  | 2, hj => exact hj
  | 3, hj => exact hj
  | 4, hj => exact hj
  | 5, hj => exact hj
  | 6, hj => exact hj
  | 7, hj => exact hj
  | 8, hj => exact hj
  | 9, hj => exact hj
  | 10, hj => cases hj
  | 11, hj => cases hj
  | 12, hj => cases hj
  | 13, hj => cases hj
  | 14, hj => cases hj
  | 15, hj => cases hj
  | 16, hj => cases hj
  | 17, hj => cases hj
  | j + 18, hj => cases hj) hh
theorem ch_tailA (hS : St V' K h' M) (hB : MB V' (c + 1)) (h8 : x8 < 0) : YQ none 23 mL_change 741 [some (.ref 0), some (.int x1), some (.int a), some (.int b), some (.int (nI n)), some (.int (nI K)), some (.int (nI t)), some (.int (x7)), some (.int (x8)), some (.int 1), none, none, none, none, none, none, none, none] [] M (some (.int 1)) (Post (c + 1)) := by
  skip
  refine q_iload dL_change_741 rfl ?_
  refine q_if_eq_f 783 dL_change_743 (by decide) (by decide) ?_
  refine q_aload_n dL_change_746 rfl ?_
  refine q_bipushv (v := 15) dL_change_747 (by decide) ?_
  refine q_callV (as := [_]) okX5_count lkL_9 dL_change_749 rfl (by decide) rfl (q_count_15 hS) (by omega) rfl (by simp [Value.category]) (Nat.le_of_ble_eq_true rfl) rfl rfl (cat8 rfl) (fun M hS => ?_)
  refine q_iload dL_change_752 rfl ?_
  refine q_if_ge_f 762 dL_change_754 (by decide) (Int32.not_le.mpr h8) ?_
  refine q_iload dL_change_757 rfl ?_
  refine q_goto 776 dL_change_759 (by decide) ?_
  refine q_icmp_ne_f 783 dL_change_776 (by decide) rfl ?_
  refine q_iconstv (v := 1) dL_change_779 (by decide) ?_
  refine q_goto 784 dL_change_780 (by decide) ?_
  exact q_ret dL_change_784 rfl (rfl) (rfl) ⟨_, _, _, hS, hB⟩
theorem ch_tailB (hK : K ≤ 4) (hS : St V' (kup K) h' M) (hB : MB V' (c + 1)) (h8 : ¬ x8 < 0) : YQ none 23 mL_change 741 [some (.ref 0), some (.int x1), some (.int a), some (.int b), some (.int (nI n)), some (.int (nI K)), some (.int (nI t)), some (.int (x7)), some (.int (x8)), some (.int 1), none, none, none, none, none, none, none, none] [] M (some (.int 1)) (Post (c + 1)) := by
  have hk1 : ¬ nI K = 4 → nI (kup K) = nI K + 1 := fun q => by
    have h1 : K ≠ 4 := fun z => q (by rw [z]; rfl)
    rw [nI_1, show kup K = K + 1 by unfold kup; omega]
  have hk2 : nI K = 4 → nI (kup K) = 4 := fun q => by
    have h1 : K = 4 := (nI_eq (a := K) (b := 4) (by omega) (by decide)).mp q
    rw [h1]
    rfl
  skip
  refine q_iload dL_change_741 rfl ?_
  refine q_if_eq_f 783 dL_change_743 (by decide) (by decide) ?_
  refine q_aload_n dL_change_746 rfl ?_
  refine q_bipushv (v := 15) dL_change_747 (by decide) ?_
  refine q_callV (as := [_]) okX5_count lkL_9 dL_change_749 rfl (by decide) rfl (q_count_15 hS) (by omega) rfl (by simp [Value.category]) (Nat.le_of_ble_eq_true rfl) rfl rfl (cat8 rfl) (fun M hS => ?_)
  refine q_iload dL_change_752 rfl ?_
  refine q_if_ge_t 762 dL_change_754 (by decide) (Int32.not_lt.mp h8) ?_
  refine q_iload dL_change_762 rfl ?_
  refine q_iconstv (v := 4) dL_change_764 (by decide) ?_
  refine q_icmp_ne 772 dL_change_765 (by decide) (fun c_765 => ?_) (fun c_765 => ?_)
  · refine q_iload dL_change_772 rfl ?_
    refine q_iconstv (v := 1) dL_change_774 (by decide) ?_
    refine q_iadd dL_change_775 ?_
    refine q_icmp_ne_f 783 dL_change_776 (by decide) (hk1 c_765) ?_
    refine q_iconstv (v := 1) dL_change_779 (by decide) ?_
    refine q_goto 784 dL_change_780 (by decide) ?_
    exact q_ret dL_change_784 rfl (rfl) (rfl) ⟨_, _, _, hS, hB⟩
  · refine q_iconstv (v := 4) dL_change_768 (by decide) ?_
    refine q_goto 776 dL_change_769 (by decide) ?_
    refine q_icmp_ne_f 783 dL_change_776 (by decide) (hk2 c_765) ?_
    refine q_iconstv (v := 1) dL_change_779 (by decide) ?_
    refine q_goto 784 dL_change_780 (by decide) ?_
    exact q_ret dL_change_784 rfl (rfl) (rfl) ⟨_, _, _, hS, hB⟩
theorem ch_come7 (hS : St V K h M) (hB : MB V c) (hc : c + 2 < 2 ^ 31) (h7 : nT V = 7) : YQ none 23 mL_change 100 [some (.ref 0), some (.int x1), some (.int a), some (.int b), some (.int (nI (nT V))), some (.int (nI K)), some (.int (nI t)), some (.int (0)), some (.int (0)), some (.int 1), none, none, none, none, none, none, none, none] [] M (some (.int 1)) (Post (c + 1)) := by
  have hn : nI (nT V) = 7 := by rw [h7]; rfl
  skip
  refine q_aload_n dL_change_100 rfl ?_
  refine q_iload_n dL_change_101 rfl ?_
  refine q_bipushv (v := 6) dL_change_102 (by decide) ?_
  refine q_callS (as := [_, _]) okL_low lkL_15 dL_change_104 rfl (q_low hS (n := 6) (by decide) (by decide)) (by omega) rfl (by simp [Value.category]) (Nat.le_of_ble_eq_true rfl) (cat8 rfl) (fun M hS => ?_)
  refine q_iload_n dL_change_107 rfl ?_
  refine q_bipushv (v := 63) dL_change_108 (by decide) ?_
  refine q_iand dL_change_110 ?_
  refine q_callV (as := [_, _]) okX5_come lkL_21 dL_change_111 rfl (by decide) rfl (q_comeL hS h7 (vp_in_nI (lowN_lt (by decide)) (by decide)) (and_63 b)) (by omega) rfl (by simp [Value.category]) (Nat.le_of_ble_eq_true rfl) rfl rfl (cat8 rfl) (fun M hS => ?_)
  refine q_istore dL_change_114 (by decide) rfl ?_
  refine q_iload dL_change_116 rfl ?_
  refine q_iload dL_change_118 rfl ?_
  refine q_bipushv (v := 7) dL_change_120 (by decide) ?_
  refine q_icmp_ne_f 130 dL_change_122 (by decide) hn ?_
  refine q_bipushv (v := -3) dL_change_125 (by decide) ?_
  refine q_goto 132 dL_change_127 (by decide) ?_
  refine q_icmp_ne_f 172 dL_change_132 (by decide) (by decide) ?_
  refine q_iload dL_change_135 rfl ?_
  refine q_bipushv (v := 7) dL_change_137 (by decide) ?_
  refine q_icmp_eq_t 168 dL_change_139 (by decide) hn ?_
  refine q_iconstv (v := 1) dL_change_168 (by decide) ?_
  refine q_goto 173 dL_change_169 (by decide) ?_
  refine q_istore dL_change_173 (by decide) rfl ?_
  refine q_goto 741 dL_change_175 (by decide) ?_
  exact ch_tailA hS (hB.le (d := c + 1) (by omega)) (by decide)
theorem ch_come (hS : St V K h M) (hB : MB V c) (hc : c + 2 < 2 ^ 31) (h6 : nT V < 7) : YQ none 23 mL_change 100 [some (.ref 0), some (.int x1), some (.int a), some (.int b), some (.int (nI (nT V))), some (.int (nI K)), some (.int (nI t)), some (.int (0)), some (.int (0)), some (.int 1), none, none, none, none, none, none, none, none] [] M (some (.int 1)) (Post (c + 1)) := by
  have hV := hS.W
  have hK : K ≤ 4 := hS.1.2.1
  have hn : ¬ nI (nT V) = 7 := fun q => absurd ((nI_eq (a := nT V) (b := 7) (by omega) (by decide)).mp q) (by omega)
  skip
  refine q_aload_n dL_change_100 rfl ?_
  refine q_iload_n dL_change_101 rfl ?_
  refine q_bipushv (v := 6) dL_change_102 (by decide) ?_
  refine q_callS (as := [_, _]) okL_low lkL_15 dL_change_104 rfl (q_low hS (n := 6) (by decide) (by decide)) (by omega) rfl (by simp [Value.category]) (Nat.le_of_ble_eq_true rfl) (cat8 rfl) (fun M hS => ?_)
  refine q_iload_n dL_change_107 rfl ?_
  refine q_bipushv (v := 63) dL_change_108 (by decide) ?_
  refine q_iand dL_change_110 ?_
  refine q_callV (as := [_, _]) okX5_come lkL_21 dL_change_111 rfl (by decide) rfl (q_come1 hS h6 (vp_in_nI (lowN_lt (by decide)) (by decide)) (and_63 b)) (by omega) rfl (by simp [Value.category]) (Nat.le_of_ble_eq_true rfl) rfl rfl (cat8 rfl) (fun M hS => ?_)
  have hlt : nT V < nT (comeV V (nI (lowN a 6)) (b &&& 63)) := by rw [(nT_come hV h6).1]; omega
  refine q_istore dL_change_114 (by decide) rfl ?_
  refine q_iload dL_change_116 rfl ?_
  refine q_iload dL_change_118 rfl ?_
  refine q_bipushv (v := 7) dL_change_120 (by decide) ?_
  refine q_icmp_ne_t 130 dL_change_122 (by decide) hn ?_
  refine q_iload dL_change_130 rfl ?_
  refine q_icmp_ne_f 172 dL_change_132 (by decide) rfl ?_
  refine q_iload dL_change_135 rfl ?_
  refine q_bipushv (v := 7) dL_change_137 (by decide) ?_
  refine q_icmp_eq_f 168 dL_change_139 (by decide) hn ?_
  refine q_aload_n dL_change_142 rfl ?_
  refine q_iload dL_change_143 rfl ?_
  refine q_iconstv (v := 2) dL_change_145 (by decide) ?_
  refine q_callV (as := [_, _]) okX5_trader lkL_24 dL_change_146 rfl (by decide) rfl (q_trader_2 hS hlt) (by omega) rfl (by simp [Value.category]) (Nat.le_of_ble_eq_true rfl) rfl rfl (cat8 rfl) (fun M hS => ?_)
  refine q_iload_n dL_change_149 rfl ?_
  refine q_bipushv (v := 6) dL_change_150 (by decide) ?_
  refine q_callS (as := [_, _]) okL_low lkL_15 dL_change_152 rfl (q_low hS (n := 6) (by decide) (by decide)) (by omega) rfl (by simp [Value.category]) (Nat.le_of_ble_eq_true rfl) (cat8 rfl) (fun M hS => ?_)
  refine q_icmp_ne_f 172 dL_change_155 (by decide) (by rw [come_hi.2.2.1, if_pos rfl]) ?_
  refine q_aload_n dL_change_158 rfl ?_
  refine q_iload dL_change_159 rfl ?_
  refine q_iconstv (v := 3) dL_change_161 (by decide) ?_
  refine q_callV (as := [_, _]) okX5_trader lkL_24 dL_change_162 rfl (by decide) rfl (q_trader_3 hS hlt) (by omega) rfl (by simp [Value.category]) (Nat.le_of_ble_eq_true rfl) rfl rfl (cat8 rfl) (fun M hS => ?_)
  refine q_if_ne_f 172 dL_change_165 (by decide) (by rw [come_hi.2.2.2.1, if_pos rfl]) ?_
  refine q_iconstv (v := 1) dL_change_168 (by decide) ?_
  refine q_goto 173 dL_change_169 (by decide) ?_
  refine q_istore dL_change_173 (by decide) rfl ?_
  refine q_goto 741 dL_change_175 (by decide) ?_
  exact ch_tailB hK hS (MB_come hV h6 (hB.le (d := c + 1) (by omega))) (nI_pos (by omega))
theorem ch_go0 (hS : St V K h M) (hB : MB V c) (hc : c + 2 < 2 ^ 31) : YQ none 23 mL_change 178 [some (.ref 0), some (.int x1), some (.int a), some (.int b), some (.int (nI (nT V))), some (.int (nI K)), some (.int (nI (nT V))), some (.int (0)), some (.int (0)), some (.int 1), none, none, none, none, none, none, none, none] [] M (some (.int 1)) (Post (c + 1)) := by
  skip
  refine q_aload_n dL_change_178 rfl ?_
  refine q_iload dL_change_179 rfl ?_
  refine q_bipushv (v := 6) dL_change_181 (by decide) ?_
  refine q_callV (as := [_, _]) okX5_trader lkL_24 dL_change_183 rfl (by decide) rfl (q_trader_n hS) (by omega) rfl (by simp [Value.category]) (Nat.le_of_ble_eq_true rfl) rfl rfl (cat8 rfl) (fun M hS => ?_)
  refine q_istore dL_change_186 (by decide) rfl ?_
  refine q_iload_n dL_change_188 rfl ?_
  refine q_bipushv (v := 7) dL_change_189 (by decide) ?_
  refine q_iand dL_change_191 ?_
  refine q_if_ne 204 dL_change_192 (by decide) (fun c_192 => ?_) (fun c_192 => ?_)
  · refine q_iload dL_change_204 rfl ?_
    refine q_istore dL_change_206 (by decide) rfl ?_
    refine q_iload dL_change_208 rfl ?_
    refine q_iload dL_change_210 rfl ?_
    refine q_icmp_ne_f 247 dL_change_212 (by decide) (by decide) ?_
    refine q_aload_n dL_change_215 rfl ?_
    refine q_iconstv (v := 1) dL_change_216 (by decide) ?_
    refine q_callV (as := [_]) okX5_count lkL_9 dL_change_217 rfl (by decide) rfl (q_count_1 hS) (by omega) rfl (by simp [Value.category]) (Nat.le_of_ble_eq_true rfl) rfl rfl (cat8 rfl) (fun M hS => ?_)
    refine q_iload dL_change_220 rfl ?_
    refine q_iload_n dL_change_222 rfl ?_
    refine q_bipushv (v := 7) dL_change_223 (by decide) ?_
    refine q_iand dL_change_225 ?_
    refine q_if_ne_t 238 dL_change_226 (by decide) c_192 ?_
    refine q_iconstv (v := 0) dL_change_238 (by decide) ?_
    refine q_isub dL_change_239 ?_
    refine q_icmp_ne_f 247 dL_change_240 (by decide) (Int32.sub_zero _).symm ?_
    refine q_iconstv (v := 1) dL_change_243 (by decide) ?_
    refine q_goto 248 dL_change_244 (by decide) ?_
    exact q_ret dL_change_248 rfl (rfl) (rfl) ⟨_, _, _, hS, hB.le (d := c + 1) (by omega)⟩
  · refine q_aload_n dL_change_195 rfl ?_
    refine q_iload dL_change_196 rfl ?_
    refine q_callV (as := [_]) okX5_go lkL_27 dL_change_198 rfl (by decide) rfl (q_go0 hS) (by omega) rfl (by simp [Value.category]) (Nat.le_of_ble_eq_true rfl) rfl rfl (cat8 rfl) (fun M hS => ?_)
    refine q_goto 206 dL_change_201 (by decide) ?_
    refine q_istore dL_change_206 (by decide) rfl ?_
    refine q_iload dL_change_208 rfl ?_
    refine q_iload dL_change_210 rfl ?_
    refine q_icmp_ne_f 247 dL_change_212 (by decide) (by decide) ?_
    refine q_aload_n dL_change_215 rfl ?_
    refine q_iconstv (v := 1) dL_change_216 (by decide) ?_
    refine q_callV (as := [_]) okX5_count lkL_9 dL_change_217 rfl (by decide) rfl (q_count_1 hS) (by omega) rfl (by simp [Value.category]) (Nat.le_of_ble_eq_true rfl) rfl rfl (cat8 rfl) (fun M hS => ?_)
    refine q_iload dL_change_220 rfl ?_
    refine q_iload_n dL_change_222 rfl ?_
    refine q_bipushv (v := 7) dL_change_223 (by decide) ?_
    refine q_iand dL_change_225 ?_
    refine q_if_ne_f 238 dL_change_226 (by decide) c_192 ?_
    refine q_iload dL_change_229 rfl ?_
    refine q_if_lt_t 238 dL_change_231 (by decide) (by decide) ?_
    refine q_iconstv (v := 0) dL_change_238 (by decide) ?_
    refine q_isub dL_change_239 ?_
    refine q_icmp_ne_f 247 dL_change_240 (by decide) (Int32.sub_zero _).symm ?_
    refine q_iconstv (v := 1) dL_change_243 (by decide) ?_
    refine q_goto 248 dL_change_244 (by decide) ?_
    exact q_ret dL_change_248 rfl (rfl) (rfl) ⟨_, _, _, hS, hB.le (d := c + 1) (by omega)⟩
theorem ch_go1 (hS : St V K h M) (hB : MB V c) (hc : c + 2 < 2 ^ 31) (ht : t < nT V) : YQ none 23 mL_change 178 [some (.ref 0), some (.int x1), some (.int a), some (.int b), some (.int (nI (nT V))), some (.int (nI K)), some (.int (nI t)), some (.int (0)), some (.int (0)), some (.int 1), none, none, none, none, none, none, none, none] [] M (some (.int 1)) (Post (c + 1)) := by
  have hV := hS.W
  have hpr : nI (nT V - 1) = nI (nT V) - 1 := by
    obtain ⟨m, hm⟩ : ∃ m, nT V = m + 1 := ⟨nT V - 1, by omega⟩
    rw [hm, nI_s1]
    rfl
  skip
  refine q_aload_n dL_change_178 rfl ?_
  refine q_iload dL_change_179 rfl ?_
  refine q_bipushv (v := 6) dL_change_181 (by decide) ?_
  refine q_callV (as := [_, _]) okX5_trader lkL_24 dL_change_183 rfl (by decide) rfl (q_trader_6 hS ht) (by omega) rfl (by simp [Value.category]) (Nat.le_of_ble_eq_true rfl) rfl rfl (cat8 rfl) (fun M hS => ?_)
  refine q_istore dL_change_186 (by decide) rfl ?_
  refine q_iload_n dL_change_188 rfl ?_
  refine q_bipushv (v := 7) dL_change_189 (by decide) ?_
  refine q_iand dL_change_191 ?_
  refine q_if_ne 204 dL_change_192 (by decide) (fun c_192 => ?_) (fun c_192 => ?_)
  · refine q_iload dL_change_204 rfl ?_
    refine q_istore dL_change_206 (by decide) rfl ?_
    refine q_iload dL_change_208 rfl ?_
    refine q_iload dL_change_210 rfl ?_
    refine q_icmp_ne_f 247 dL_change_212 (by decide) rfl ?_
    refine q_aload_n dL_change_215 rfl ?_
    refine q_iconstv (v := 1) dL_change_216 (by decide) ?_
    refine q_callV (as := [_]) okX5_count lkL_9 dL_change_217 rfl (by decide) rfl (q_count_1 hS) (by omega) rfl (by simp [Value.category]) (Nat.le_of_ble_eq_true rfl) rfl rfl (cat8 rfl) (fun M hS => ?_)
    refine q_iload dL_change_220 rfl ?_
    refine q_iload_n dL_change_222 rfl ?_
    refine q_bipushv (v := 7) dL_change_223 (by decide) ?_
    refine q_iand dL_change_225 ?_
    refine q_if_ne_t 238 dL_change_226 (by decide) c_192 ?_
    refine q_iconstv (v := 0) dL_change_238 (by decide) ?_
    refine q_isub dL_change_239 ?_
    refine q_icmp_ne_f 247 dL_change_240 (by decide) (Int32.sub_zero _).symm ?_
    refine q_iconstv (v := 1) dL_change_243 (by decide) ?_
    refine q_goto 248 dL_change_244 (by decide) ?_
    exact q_ret dL_change_248 rfl (rfl) (rfl) ⟨_, _, _, hS, by first | exact MB_go hV ht (hB.le (d := c + 1) (by omega)) | exact hB.le (d := c + 1) (by omega)⟩
  · refine q_aload_n dL_change_195 rfl ?_
    refine q_iload dL_change_196 rfl ?_
    refine q_callV (as := [_]) okX5_go lkL_27 dL_change_198 rfl (by decide) rfl (q_go1 hS ht) (by omega) rfl (by simp [Value.category]) (Nat.le_of_ble_eq_true rfl) rfl rfl (cat8 rfl) (fun M hS => ?_)
    refine q_goto 206 dL_change_201 (by decide) ?_
    refine q_istore dL_change_206 (by decide) rfl ?_
    refine q_iload dL_change_208 rfl ?_
    refine q_iload dL_change_210 rfl ?_
    refine q_icmp_ne_f 247 dL_change_212 (by decide) rfl ?_
    refine q_aload_n dL_change_215 rfl ?_
    refine q_iconstv (v := 1) dL_change_216 (by decide) ?_
    refine q_callV (as := [_]) okX5_count lkL_9 dL_change_217 rfl (by decide) rfl (q_count_1 hS) (by omega) rfl (by simp [Value.category]) (Nat.le_of_ble_eq_true rfl) rfl rfl (cat8 rfl) (fun M hS => ?_)
    refine q_iload dL_change_220 rfl ?_
    refine q_iload_n dL_change_222 rfl ?_
    refine q_bipushv (v := 7) dL_change_223 (by decide) ?_
    refine q_iand dL_change_225 ?_
    refine q_if_ne_f 238 dL_change_226 (by decide) c_192 ?_
    refine q_iload dL_change_229 rfl ?_
    refine q_if_lt_f 238 dL_change_231 (by decide) (vp_pos (hB t ht)) ?_
    refine q_iconstv (v := 1) dL_change_234 (by decide) ?_
    refine q_goto 239 dL_change_235 (by decide) ?_
    refine q_isub dL_change_239 ?_
    refine q_icmp_ne_f 247 dL_change_240 (by decide) (by rw [(nT_go hV ht).1, hpr]) ?_
    refine q_iconstv (v := 1) dL_change_243 (by decide) ?_
    refine q_goto 248 dL_change_244 (by decide) ?_
    exact q_ret dL_change_248 rfl (rfl) (rfl) ⟨_, _, _, hS, by first | exact MB_go hV ht (hB.le (d := c + 1) (by omega)) | exact hB.le (d := c + 1) (by omega)⟩
theorem ch_want0 (hS : St V K h M) (hB : MB V c) (hc : c + 2 < 2 ^ 31) : YQ none 23 mL_change 249 [some (.ref 0), some (.int x1), some (.int a), some (.int b), some (.int (nI (nT V))), some (.int (nI K)), some (.int (nI (nT V))), some (.int (0)), some (.int (0)), some (.int 1), none, none, none, none, none, none, none, none] [] M (some (.int 1)) (Post (c + 1)) := by
  skip
  refine q_aload_n dL_change_249 rfl ?_
  refine q_iload dL_change_250 rfl ?_
  refine q_iconstv (v := 1) dL_change_252 (by decide) ?_
  refine q_callV (as := [_, _]) okX5_trader lkL_24 dL_change_253 rfl (by decide) rfl (q_trader_n hS) (by omega) rfl (by simp [Value.category]) (Nat.le_of_ble_eq_true rfl) rfl rfl (cat8 rfl) (fun M hS => ?_)
  refine q_istore dL_change_256 (by decide) rfl ?_
  refine q_aload_n dL_change_258 rfl ?_
  refine q_iload dL_change_259 rfl ?_
  refine q_iload_n dL_change_261 rfl ?_
  refine q_bipushv (v := 63) dL_change_262 (by decide) ?_
  refine q_iand dL_change_264 ?_
  refine q_callV (as := [_, _]) okX5_want lkL_30 dL_change_265 rfl (by decide) rfl (q_want0 hS) (by omega) rfl (by simp [Value.category]) (Nat.le_of_ble_eq_true rfl) rfl rfl (cat8 rfl) (fun M hS => ?_)
  refine q_istore dL_change_268 (by decide) rfl ?_
  refine q_iload dL_change_270 rfl ?_
  refine q_iload dL_change_272 rfl ?_
  refine q_icmp_ne_f 300 dL_change_274 (by decide) (by decide) ?_
  refine q_iload dL_change_277 rfl ?_
  refine q_if_lt_t 296 dL_change_279 (by decide) (by decide) ?_
  refine q_iconstv (v := 1) dL_change_296 (by decide) ?_
  refine q_goto 301 dL_change_297 (by decide) ?_
  refine q_istore dL_change_301 (by decide) rfl ?_
  refine q_goto 741 dL_change_303 (by decide) ?_
  exact ch_tailA hS (hB.le (d := c + 1) (by omega)) (by decide)
theorem ch_want1 (hS : St V K h M) (hB : MB V c) (hc : c + 2 < 2 ^ 31) (ht : t < nT V) : YQ none 23 mL_change 249 [some (.ref 0), some (.int x1), some (.int a), some (.int b), some (.int (nI (nT V))), some (.int (nI K)), some (.int (nI t)), some (.int (0)), some (.int (0)), some (.int 1), none, none, none, none, none, none, none, none] [] M (some (.int 1)) (Post (c + 1)) := by
  have hK : K ≤ 4 := hS.1.2.1
  have hp : ¬ V (23 + 5 * t) < 0 := vp_pos (hS.W.2.1 t ht).2.1
  skip
  refine q_aload_n dL_change_249 rfl ?_
  refine q_iload dL_change_250 rfl ?_
  refine q_iconstv (v := 1) dL_change_252 (by decide) ?_
  refine q_callV (as := [_, _]) okX5_trader lkL_24 dL_change_253 rfl (by decide) rfl (q_trader_1 hS ht) (by omega) rfl (by simp [Value.category]) (Nat.le_of_ble_eq_true rfl) rfl rfl (cat8 rfl) (fun M hS => ?_)
  refine q_istore dL_change_256 (by decide) rfl ?_
  refine q_aload_n dL_change_258 rfl ?_
  refine q_iload dL_change_259 rfl ?_
  refine q_iload_n dL_change_261 rfl ?_
  refine q_bipushv (v := 63) dL_change_262 (by decide) ?_
  refine q_iand dL_change_264 ?_
  refine q_callV (as := [_, _]) okX5_want lkL_30 dL_change_265 rfl (by decide) rfl (q_want1 hS ht (and_63 b)) (by omega) rfl (by simp [Value.category]) (Nat.le_of_ble_eq_true rfl) rfl rfl (cat8 rfl) (fun M hS => ?_)
  have ht2 : t < nT (upd V (23 + 5 * t) (b &&& 63)) := by rw [nT_upd (by omega)]; exact ht
  refine q_istore dL_change_268 (by decide) rfl ?_
  refine q_iload dL_change_270 rfl ?_
  refine q_iload dL_change_272 rfl ?_
  refine q_icmp_ne_f 300 dL_change_274 (by decide) rfl ?_
  refine q_iload dL_change_277 rfl ?_
  refine q_if_lt_f 296 dL_change_279 (by decide) hp ?_
  refine q_aload_n dL_change_282 rfl ?_
  refine q_iload dL_change_283 rfl ?_
  refine q_iconstv (v := 1) dL_change_285 (by decide) ?_
  refine q_callV (as := [_, _]) okX5_trader lkL_24 dL_change_286 rfl (by decide) rfl (q_trader_1 hS ht2) (by omega) rfl (by simp [Value.category]) (Nat.le_of_ble_eq_true rfl) rfl rfl (cat8 rfl) (fun M hS => ?_)
  refine q_iload_n dL_change_289 rfl ?_
  refine q_bipushv (v := 63) dL_change_290 (by decide) ?_
  refine q_iand dL_change_292 ?_
  refine q_icmp_ne_f 300 dL_change_293 (by decide) pk_us ?_
  refine q_iconstv (v := 1) dL_change_296 (by decide) ?_
  refine q_goto 301 dL_change_297 (by decide) ?_
  refine q_istore dL_change_301 (by decide) rfl ?_
  refine q_goto 741 dL_change_303 (by decide) ?_
  exact ch_tailB hK hS (MB_upd (hB.le (d := c + 1) (by omega)) (by omega) (fun j => by omega)) hp
theorem ch_life (hS : St V K h M) (hB : MB V c) (hc : c + 2 < 2 ^ 31) : YQ none 23 mL_change 306 [some (.ref 0), some (.int x1), some (.int a), some (.int b), some (.int (nI (nT V))), some (.int (nI K)), some (.int (nI t)), some (.int (0)), some (.int (0)), some (.int 1), none, none, none, none, none, none, none, none] [] M (some (.int 1)) (Post (c + 1)) := by
  have hK : K ≤ 4 := hS.1.2.1
  have hl6 := lowN_lt (v := a) (n := 6) (by decide)
  have hp : ¬ V (10 + 2 * lowN a 6) < 0 := vp_pos (hS.W.2.2.1 _ hl6).1
  skip
  refine q_aload_n dL_change_306 rfl ?_
  refine q_iload_n dL_change_307 rfl ?_
  refine q_bipushv (v := 6) dL_change_308 (by decide) ?_
  refine q_callS (as := [_, _]) okL_low lkL_15 dL_change_310 rfl (q_low hS (n := 6) (by decide) (by decide)) (by omega) rfl (by simp [Value.category]) (Nat.le_of_ble_eq_true rfl) (cat8 rfl) (fun M hS => ?_)
  refine q_iconstv (v := 0) dL_change_313 (by decide) ?_
  refine q_callV (as := [_, _]) okX5_kind lkL_33 dL_change_314 rfl (by decide) rfl (q_kind_0 hS (lowN_lt (v := a) (n := 6) (by decide))) (by omega) rfl (by simp [Value.category]) (Nat.le_of_ble_eq_true rfl) rfl rfl (cat8 rfl) (fun M hS => ?_)
  refine q_istore dL_change_317 (by decide) rfl ?_
  refine q_aload_n dL_change_319 rfl ?_
  refine q_iload_n dL_change_320 rfl ?_
  refine q_bipushv (v := 6) dL_change_321 (by decide) ?_
  refine q_callS (as := [_, _]) okL_low lkL_15 dL_change_323 rfl (q_low hS (n := 6) (by decide) (by decide)) (by omega) rfl (by simp [Value.category]) (Nat.le_of_ble_eq_true rfl) (cat8 rfl) (fun M hS => ?_)
  refine q_iconstv (v := 1) dL_change_326 (by decide) ?_
  refine q_iload_n dL_change_327 rfl ?_
  refine q_bipushv (v := 6) dL_change_328 (by decide) ?_
  refine q_callS (as := [_, _]) okL_low lkL_15 dL_change_330 rfl (q_low hS (n := 6) (by decide) (by decide)) (by omega) rfl (by simp [Value.category]) (Nat.le_of_ble_eq_true rfl) (cat8 rfl) (fun M hS => ?_)
  refine q_iadd dL_change_333 ?_
  rw [show (1 : Int32) + nI (lowN b 6) = nI (1 + lowN b 6) from nI_add 1 _]
  refine q_callV (as := [_, _]) okX5_life lkL_36 dL_change_334 rfl (by decide) rfl (q_life hS (lowN_lt (v := a) (n := 6) (by decide)) (by omega) (by have := lowN_lt (v := b) (n := 6) (by decide); omega)) (by omega) rfl (by simp [Value.category]) (Nat.le_of_ble_eq_true rfl) rfl rfl (cat8 rfl) (fun M hS => ?_)
  refine q_istore dL_change_337 (by decide) rfl ?_
  refine q_iload dL_change_339 rfl ?_
  refine q_iload dL_change_341 rfl ?_
  refine q_icmp_ne_f 372 dL_change_343 (by decide) rfl ?_
  refine q_aload_n dL_change_346 rfl ?_
  refine q_iload_n dL_change_347 rfl ?_
  refine q_bipushv (v := 6) dL_change_348 (by decide) ?_
  refine q_callS (as := [_, _]) okL_low lkL_15 dL_change_350 rfl (q_low hS (n := 6) (by decide) (by decide)) (by omega) rfl (by simp [Value.category]) (Nat.le_of_ble_eq_true rfl) (cat8 rfl) (fun M hS => ?_)
  refine q_iconstv (v := 0) dL_change_353 (by decide) ?_
  refine q_callV (as := [_, _]) okX5_kind lkL_33 dL_change_354 rfl (by decide) rfl (q_kind_0 hS (lowN_lt (v := a) (n := 6) (by decide))) (by omega) rfl (by simp [Value.category]) (Nat.le_of_ble_eq_true rfl) rfl rfl (cat8 rfl) (fun M hS => ?_)
  refine q_iconstv (v := 1) dL_change_357 (by decide) ?_
  refine q_iload_n dL_change_358 rfl ?_
  refine q_bipushv (v := 6) dL_change_359 (by decide) ?_
  refine q_callS (as := [_, _]) okL_low lkL_15 dL_change_361 rfl (q_low hS (n := 6) (by decide) (by decide)) (by omega) rfl (by simp [Value.category]) (Nat.le_of_ble_eq_true rfl) (cat8 rfl) (fun M hS => ?_)
  refine q_iadd dL_change_364 ?_
  rw [show (1 : Int32) + nI (lowN b 6) = nI (1 + lowN b 6) from nI_add 1 _]
  refine q_icmp_ne_f 372 dL_change_365 (by decide) pk_us ?_
  refine q_iconstv (v := 1) dL_change_368 (by decide) ?_
  refine q_goto 373 dL_change_369 (by decide) ?_
  refine q_istore dL_change_373 (by decide) rfl ?_
  refine q_goto 741 dL_change_375 (by decide) ?_
  exact ch_tailB hK hS (MB_upd (hB.le (d := c + 1) (by omega)) (by omega) (fun j => by omega)) hp
theorem ch_circle (hS : St V K h M) (hB : MB V c) (hc : c + 2 < 2 ^ 31) : YQ none 23 mL_change 378 [some (.ref 0), some (.int x1), some (.int a), some (.int b), some (.int (nI (nT V))), some (.int (nI K)), some (.int (nI t)), some (.int (0)), some (.int (0)), some (.int 1), none, none, none, none, none, none, none, none] [] M (some (.int 1)) (Post (c + 1)) := by
  have hK : K ≤ 4 := hS.1.2.1
  have hL := cir_ok hS.W
  skip
  refine q_aload_n dL_change_378 rfl ?_
  refine q_bipushv (v := 11) dL_change_379 (by decide) ?_
  refine q_callV (as := [_]) okX5_count lkL_9 dL_change_381 rfl (by decide) rfl (q_count_11 hS) (by omega) rfl (by simp [Value.category]) (Nat.le_of_ble_eq_true rfl) rfl rfl (cat8 rfl) (fun M hS => ?_)
  refine q_istore dL_change_384 (by decide) rfl ?_
  refine q_aload_n dL_change_386 rfl ?_
  refine q_iconstv (v := 2) dL_change_387 (by decide) ?_
  refine q_iload_n dL_change_388 rfl ?_
  refine q_bipushv (v := 6) dL_change_389 (by decide) ?_
  refine q_callS (as := [_, _]) okL_low lkL_15 dL_change_391 rfl (q_low hS (n := 6) (by decide) (by decide)) (by omega) rfl (by simp [Value.category]) (Nat.le_of_ble_eq_true rfl) (cat8 rfl) (fun M hS => ?_)
  refine q_iadd dL_change_394 ?_
  rw [show (2 : Int32) + nI (lowN b 6) = nI (2 + lowN b 6) from nI_add 2 _]
  refine q_callV (as := [_]) okX5_circle lkL_39 dL_change_395 rfl (by decide) rfl (q_circle hS (by omega) (by have := lowN_lt (v := b) (n := 6) (by decide); omega)) (by omega) rfl (by simp [Value.category]) (Nat.le_of_ble_eq_true rfl) rfl rfl (cat8 rfl) (fun M hS => ?_)
  refine q_istore dL_change_398 (by decide) rfl ?_
  refine q_iload dL_change_400 rfl ?_
  refine q_iload dL_change_402 rfl ?_
  refine q_icmp_ne_f 411 dL_change_404 (by decide) rfl ?_
  refine q_iconstv (v := 1) dL_change_407 (by decide) ?_
  refine q_goto 412 dL_change_408 (by decide) ?_
  refine q_istore dL_change_412 (by decide) rfl ?_
  refine q_goto 741 dL_change_414 (by decide) ?_
  exact ch_tailB hK hS (MB_upd (hB.le (d := c + 1) (by omega)) (by omega) (fun j => by omega)) (nI_pos (by omega))
theorem ch_lot (hS : St V K h M) (hB : MB V c) (hc : c + 2 < 2 ^ 31) : YQ none 23 mL_change 417 [some (.ref 0), some (.int x1), some (.int a), some (.int b), some (.int (nI (nT V))), some (.int (nI K)), some (.int (nI t)), some (.int (0)), some (.int (0)), some (.int 1), none, none, none, none, none, none, none, none] [] M (some (.int 1)) (Post (c + 1)) := by
  have hK : K ≤ 4 := hS.1.2.1
  have hp : ¬ V 8 < 0 := vp_pos hS.W.2.2.2.2.1
  skip
  refine q_aload_n dL_change_417 rfl ?_
  refine q_bipushv (v := 12) dL_change_418 (by decide) ?_
  refine q_callV (as := [_]) okX5_count lkL_9 dL_change_420 rfl (by decide) rfl (q_count_12 hS) (by omega) rfl (by simp [Value.category]) (Nat.le_of_ble_eq_true rfl) rfl rfl (cat8 rfl) (fun M hS => ?_)
  refine q_istore dL_change_423 (by decide) rfl ?_
  refine q_aload_n dL_change_425 rfl ?_
  refine q_iload_n dL_change_426 rfl ?_
  refine q_sipushv (v := 10000) dL_change_427 (by decide) ?_
  refine q_callS (as := [_, _]) okL_low lkL_15 dL_change_430 rfl (q_low hS (n := 10000) (by decide) (by decide)) (by omega) rfl (by simp [Value.category]) (Nat.le_of_ble_eq_true rfl) (cat8 rfl) (fun M hS => ?_)
  refine q_callV (as := [_]) okX5_lot lkL_42 dL_change_433 rfl (by decide) rfl (q_lot hS (lowN_lt (by decide))) (by omega) rfl (by simp [Value.category]) (Nat.le_of_ble_eq_true rfl) rfl rfl (cat8 rfl) (fun M hS => ?_)
  refine q_istore dL_change_436 (by decide) rfl ?_
  refine q_iload dL_change_438 rfl ?_
  refine q_iload dL_change_440 rfl ?_
  refine q_icmp_ne_f 449 dL_change_442 (by decide) rfl ?_
  refine q_iconstv (v := 1) dL_change_445 (by decide) ?_
  refine q_goto 450 dL_change_446 (by decide) ?_
  refine q_istore dL_change_450 (by decide) rfl ?_
  refine q_goto 741 dL_change_452 (by decide) ?_
  exact ch_tailB hK hS (MB_upd (hB.le (d := c + 1) (by omega)) (by omega) (fun j => by omega)) hp
theorem ch_bart (hS : St V K h M) (hB : MB V c) (hc : c + 2 < 2 ^ 31) (htn : t ≤ nT V) : YQ none 23 mL_change 455 [some (.ref 0), some (.int x1), some (.int a), some (.int b), some (.int (nI (nT V))), some (.int (nI K)), some (.int (nI t)), some (.int (0)), some (.int (0)), some (.int 1), none, none, none, none, none, none, none, none] [] M (some (.int 1)) (Post (c + 1)) := by
  have h7 := n_7 hS.W
  skip
  refine q_aload_n dL_change_455 rfl ?_
  refine q_iload dL_change_456 rfl ?_
  refine q_iload_n dL_change_458 rfl ?_
  refine q_iload dL_change_459 rfl ?_
  refine q_iconstv (v := 1) dL_change_461 (by decide) ?_
  refine q_iadd dL_change_462 ?_
  rw [nI_1]
  refine q_callS (as := [_, _]) okL_low lkL_15 dL_change_463 rfl (q_low hS (n := nT V + 1) (by omega) (by omega)) (by omega) rfl (by simp [Value.category]) (Nat.le_of_ble_eq_true rfl) (cat8 rfl) (fun M hS => ?_)
  refine q_callS (as := [_, _, _]) okL_barters lkL_45 dL_change_466 rfl (q_barters hS hB hc htn (by have := lowN_lt (v := b) (n := nT V + 1) (by omega); omega)) (by omega) rfl (by simp [Value.category]) (Nat.le_of_ble_eq_true rfl) (cat8 rfl) (fun M hS => ?_)
  obtain ⟨V, K, h, hS, hB⟩ := hS
  have hK : K ≤ 4 := hS.1.2.1
  refine q_if_eq_f 486 dL_change_469 (by decide) (by decide) ?_
  refine q_aload_n dL_change_472 rfl ?_
  refine q_bipushv (v := 15) dL_change_473 (by decide) ?_
  refine q_callV (as := [_]) okX5_count lkL_9 dL_change_475 rfl (by decide) rfl (q_count_15 hS) (by omega) rfl (by simp [Value.category]) (Nat.le_of_ble_eq_true rfl) rfl rfl (cat8 rfl) (fun M hS => ?_)
  refine q_iconstv (v := 4) dL_change_478 (by decide) ?_
  refine q_icmp_gt_f 486 dL_change_479 (by decide) (nI_nlt (a := 4) (b := K) hK (by decide)) ?_
  refine q_iconstv (v := 1) dL_change_482 (by decide) ?_
  refine q_goto 487 dL_change_483 (by decide) ?_
  exact q_ret dL_change_487 rfl (rfl) (rfl) ⟨_, _, _, hS, hB⟩
theorem ch_call (hS : St V K h M) (hB : MB V c) (hc : c + 2 < 2 ^ 31) : YQ none 23 mL_change 488 [some (.ref 0), some (.int x1), some (.int a), some (.int b), some (.int (nI (nT V))), some (.int (nI K)), some (.int (nI t)), some (.int (0)), some (.int (0)), some (.int 1), none, none, none, none, none, none, none, none] [] M (some (.int 1)) (Post (c + 1)) := by
  have hK : K ≤ 4 := hS.1.2.1
  have hV := hS.W
  skip
  refine q_aload_n dL_change_488 rfl ?_
  refine q_iconstv (v := 3) dL_change_489 (by decide) ?_
  refine q_callV (as := [_]) okX5_count lkL_9 dL_change_490 rfl (by decide) rfl (q_count_3 hS) (by omega) rfl (by simp [Value.category]) (Nat.le_of_ble_eq_true rfl) rfl rfl (cat8 rfl) (fun M hS => ?_)
  refine q_istore dL_change_493 (by decide) rfl ?_
  refine q_aload_n dL_change_495 rfl ?_
  refine q_iconstv (v := 2) dL_change_496 (by decide) ?_
  refine q_callV (as := [_]) okX5_count lkL_9 dL_change_497 rfl (by decide) rfl (q_count_2 hS) (by omega) rfl (by simp [Value.category]) (Nat.le_of_ble_eq_true rfl) rfl rfl (cat8 rfl) (fun M hS => ?_)
  refine q_istore dL_change_500 (by decide) rfl ?_
  refine q_aload_n dL_change_502 rfl ?_
  refine q_bipushv (v := 8) dL_change_503 (by decide) ?_
  refine q_callV (as := [_]) okX5_count lkL_9 dL_change_505 rfl (by decide) rfl (q_count_8 hS) (by omega) rfl (by simp [Value.category]) (Nat.le_of_ble_eq_true rfl) rfl rfl (cat8 rfl) (fun M hS => ?_)
  refine q_istore dL_change_508 (by decide) rfl ?_
  refine q_aload_n dL_change_510 rfl ?_
  refine q_iconstv (v := 0) dL_change_511 (by decide) ?_
  refine q_callV (as := [_]) okX5_most lkL_49 dL_change_512 rfl (by decide) rfl (q_most_0 hS) (by omega) rfl (by simp [Value.category]) (Nat.le_of_ble_eq_true rfl) rfl rfl (cat8 rfl) (fun M hS => ?_)
  refine q_istore dL_change_515 (by decide) rfl ?_
  refine q_aload_n dL_change_517 rfl ?_
  refine q_callV0 okX5_call lkL_52 dL_change_518 (by decide) rfl (q_call hS) (by omega) (Nat.le_of_ble_eq_true rfl) rfl rfl (cat8 rfl) (fun M hS => ?_)
  refine q_istore dL_change_521 (by decide) rfl ?_
  refine q_iload dL_change_523 rfl ?_
  refine q_iload dL_change_525 rfl ?_
  refine q_icmp_ne_f 573 dL_change_527 (by decide) rfl ?_
  refine q_aload_n dL_change_530 rfl ?_
  refine q_iconstv (v := 3) dL_change_531 (by decide) ?_
  refine q_callV (as := [_]) okX5_count lkL_9 dL_change_532 rfl (by decide) rfl (q_count_3 hS) (by omega) rfl (by simp [Value.category]) (Nat.le_of_ble_eq_true rfl) rfl rfl (cat8 rfl) (fun M hS => ?_)
  refine q_iload dL_change_535 rfl ?_
  refine q_iload dL_change_537 rfl ?_
  refine q_iadd dL_change_539 ?_
  refine q_icmp_ne_f 573 dL_change_540 (by decide) (call_2 hV) ?_
  refine q_aload_n dL_change_543 rfl ?_
  refine q_iconstv (v := 2) dL_change_544 (by decide) ?_
  refine q_callV (as := [_]) okX5_count lkL_9 dL_change_545 rfl (by decide) rfl (q_count_2 hS) (by omega) rfl (by simp [Value.category]) (Nat.le_of_ble_eq_true rfl) rfl rfl (cat8 rfl) (fun M hS => ?_)
  refine q_iload dL_change_548 rfl ?_
  refine q_iload dL_change_550 rfl ?_
  refine q_isub dL_change_552 ?_
  refine q_icmp_ne_f 573 dL_change_553 (by decide) (call_needs hV) ?_
  refine q_aload_n dL_change_556 rfl ?_
  refine q_bipushv (v := 8) dL_change_557 (by decide) ?_
  refine q_callV (as := [_]) okX5_count lkL_9 dL_change_559 rfl (by decide) rfl (q_count_8 hS) (by omega) rfl (by simp [Value.category]) (Nat.le_of_ble_eq_true rfl) rfl rfl (cat8 rfl) (fun M hS => ?_)
  refine q_iload dL_change_562 rfl ?_
  refine q_iconstv (v := 1) dL_change_564 (by decide) ?_
  refine q_iadd dL_change_565 ?_
  refine q_icmp_ne_f 573 dL_change_566 (by decide) (call_5 hV) ?_
  refine q_iconstv (v := 1) dL_change_569 (by decide) ?_
  refine q_goto 574 dL_change_570 (by decide) ?_
  refine q_istore dL_change_574 (by decide) rfl ?_
  refine q_goto 741 dL_change_576 (by decide) ?_
  exact ch_drop (ch_tailB hK hS (MB_call hV hB hc) (Int32.not_lt.mpr (mst_pos hV)))
theorem ch_day (hS : St V K h M) (hB : MB V c) (hc : c + 2 < 2 ^ 31) : YQ none 23 mL_change 579 [some (.ref 0), some (.int x1), some (.int a), some (.int b), some (.int (nI (nT V))), some (.int (nI K)), some (.int (nI t)), some (.int (0)), some (.int (0)), some (.int 1), none, none, none, none, none, none, none, none] [] M (some (.int 1)) (Post (c + 1)) := by
  have hK : K ≤ 4 := hS.1.2.1
  have hG := hS.G
  have hV := hS.W
  have h7 := n_7 hV
  have hn0 : ¬ nI (nT V) + 1 = 0 := fun q => by
    rw [nI_1] at q
    exact absurd ((nI_eq (a := nT V + 1) (b := 0) (by omega) (by decide)).mp q) (by omega)
  obtain ⟨d, hd, e1, e2⟩ := pass_9n hV
  have h91 : ¬ rem32 (lotx (V 8)) (nI (nT V) + 1) = nI (nT V) → passV V 9 = rem32 (lotx (V 8)) (nI (nT V) + 1) := fun q => by
    rw [e1] at q ⊢
    rw [e2, if_neg (fun z => q (by rw [z]))]
  have h92 : rem32 (lotx (V 8)) (nI (nT V) + 1) = nI (nT V) → passV V 9 = -4 := fun q => by
    rw [e1] at q
    rw [e2, if_pos ((nI_eq (by omega) (by omega)).mp q)]
  skip
  refine q_aload_n dL_change_579 rfl ?_
  refine q_iconstv (v := 0) dL_change_580 (by decide) ?_
  refine q_callV (as := [_]) okX5_count lkL_9 dL_change_581 rfl (by decide) rfl (q_count_0 hS) (by omega) rfl (by simp [Value.category]) (Nat.le_of_ble_eq_true rfl) rfl rfl (cat8 rfl) (fun M hS => ?_)
  refine q_istore dL_change_584 (by decide) rfl ?_
  refine q_aload_n dL_change_586 rfl ?_
  refine q_iconstv (v := 5) dL_change_587 (by decide) ?_
  refine q_callV (as := [_]) okX5_count lkL_9 dL_change_588 rfl (by decide) rfl (q_count_5 hS) (by omega) rfl (by simp [Value.category]) (Nat.le_of_ble_eq_true rfl) rfl rfl (cat8 rfl) (fun M hS => ?_)
  refine q_istore dL_change_591 (by decide) rfl ?_
  refine q_aload_n dL_change_593 rfl ?_
  refine q_bipushv (v := 7) dL_change_594 (by decide) ?_
  refine q_callV (as := [_]) okX5_count lkL_9 dL_change_596 rfl (by decide) rfl (q_count_7 hS) (by omega) rfl (by simp [Value.category]) (Nat.le_of_ble_eq_true rfl) rfl rfl (cat8 rfl) (fun M hS => ?_)
  refine q_istore dL_change_599 (by decide) rfl ?_
  refine q_aload_n dL_change_601 rfl ?_
  refine q_bipushv (v := 6) dL_change_602 (by decide) ?_
  refine q_callV (as := [_]) okX5_count lkL_9 dL_change_604 rfl (by decide) rfl (q_count_6 hS) (by omega) rfl (by simp [Value.category]) (Nat.le_of_ble_eq_true rfl) rfl rfl (cat8 rfl) (fun M hS => ?_)
  refine q_istore dL_change_607 (by decide) rfl ?_
  refine q_sipushv (v := 421) dL_change_609 (by decide) ?_
  refine q_aload_n dL_change_612 rfl ?_
  refine q_bipushv (v := 12) dL_change_613 (by decide) ?_
  refine q_callV (as := [_]) okX5_count lkL_9 dL_change_615 rfl (by decide) rfl (q_count_12 hS) (by omega) rfl (by simp [Value.category]) (Nat.le_of_ble_eq_true rfl) rfl rfl (cat8 rfl) (fun M hS => ?_)
  refine q_imul dL_change_618 ?_
  refine q_sipushv (v := 1663) dL_change_619 (by decide) ?_
  refine q_iadd dL_change_622 ?_
  refine q_sipushv (v := 10000) dL_change_623 (by decide) ?_
  refine q_irem (by decide) dL_change_626 ?_
  refine q_istore dL_change_627 (by decide) rfl ?_
  refine q_aload_n dL_change_629 rfl ?_
  refine q_callV0 okX5_day lkL_56 dL_change_630 (by decide) rfl (q_day hS) (by omega) (Nat.le_of_ble_eq_true rfl) rfl rfl (cat8 rfl) (fun M hS => ?_)
  refine q_istore dL_change_633 (by decide) rfl ?_
  refine q_iload dL_change_635 rfl ?_
  refine q_iload dL_change_637 rfl ?_
  refine q_icmp_lt_f 738 dL_change_639 (by decide) (thr_ge hG) ?_
  refine q_aload_n dL_change_642 rfl ?_
  refine q_iconstv (v := 0) dL_change_643 (by decide) ?_
  refine q_callV (as := [_]) okX5_count lkL_9 dL_change_644 rfl (by decide) rfl (q_count_0 hS) (by omega) rfl (by simp [Value.category]) (Nat.le_of_ble_eq_true rfl) rfl rfl (cat8 rfl) (fun M hS => ?_)
  refine q_iload dL_change_647 rfl ?_
  refine q_iconstv (v := 1) dL_change_649 (by decide) ?_
  refine q_iadd dL_change_650 ?_
  refine q_icmp_ne_f 738 dL_change_651 (by decide) pass_0 ?_
  refine q_aload_n dL_change_654 rfl ?_
  refine q_bipushv (v := 6) dL_change_655 (by decide) ?_
  refine q_callV (as := [_]) okX5_count lkL_9 dL_change_657 rfl (by decide) rfl (q_count_6 hS) (by omega) rfl (by simp [Value.category]) (Nat.le_of_ble_eq_true rfl) rfl rfl (cat8 rfl) (fun M hS => ?_)
  refine q_iload dL_change_660 rfl ?_
  refine q_iload dL_change_662 rfl ?_
  refine q_iadd dL_change_664 ?_
  refine q_icmp_ne_f 738 dL_change_665 (by decide) pass_3 ?_
  refine q_aload_n dL_change_668 rfl ?_
  refine q_bipushv (v := 7) dL_change_669 (by decide) ?_
  refine q_callV (as := [_]) okX5_count lkL_9 dL_change_671 rfl (by decide) rfl (q_count_7 hS) (by omega) rfl (by simp [Value.category]) (Nat.le_of_ble_eq_true rfl) rfl rfl (cat8 rfl) (fun M hS => ?_)
  refine q_iload dL_change_674 rfl ?_
  refine q_iload dL_change_676 rfl ?_
  refine q_iadd dL_change_678 ?_
  refine q_icmp_ne_f 738 dL_change_679 (by decide) pass_4 ?_
  refine q_aload_n dL_change_682 rfl ?_
  refine q_bipushv (v := 12) dL_change_683 (by decide) ?_
  refine q_callV (as := [_]) okX5_count lkL_9 dL_change_685 rfl (by decide) rfl (q_count_12 hS) (by omega) rfl (by simp [Value.category]) (Nat.le_of_ble_eq_true rfl) rfl rfl (cat8 rfl) (fun M hS => ?_)
  refine q_iload dL_change_688 rfl ?_
  refine q_icmp_ne_f 738 dL_change_690 (by decide) pass_8 ?_
  refine q_aload_n dL_change_693 rfl ?_
  refine q_bipushv (v := 13) dL_change_694 (by decide) ?_
  refine q_callV (as := [_]) okX5_count lkL_9 dL_change_696 rfl (by decide) rfl (q_count_13 hS) (by omega) rfl (by simp [Value.category]) (Nat.le_of_ble_eq_true rfl) rfl rfl (cat8 rfl) (fun M hS => ?_)
  refine q_iload dL_change_699 rfl ?_
  refine q_iload dL_change_701 rfl ?_
  refine q_iconstv (v := 1) dL_change_703 (by decide) ?_
  refine q_iadd dL_change_704 ?_
  refine q_irem hn0 dL_change_705 ?_
  refine q_iload dL_change_706 rfl ?_
  refine q_icmp_ne 716 dL_change_708 (by decide) (fun c_708 => ?_) (fun c_708 => ?_)
  · refine q_iload dL_change_716 rfl ?_
    refine q_iload dL_change_718 rfl ?_
    refine q_iconstv (v := 1) dL_change_720 (by decide) ?_
    refine q_iadd dL_change_721 ?_
    refine q_irem hn0 dL_change_722 ?_
    refine q_icmp_ne_f 738 dL_change_723 (by decide) (h91 c_708) ?_
    refine q_aload_n dL_change_726 rfl ?_
    refine q_iconstv (v := 5) dL_change_727 (by decide) ?_
    refine q_callV (as := [_]) okX5_count lkL_9 dL_change_728 rfl (by decide) rfl (q_count_5 hS) (by omega) rfl (by simp [Value.category]) (Nat.le_of_ble_eq_true rfl) rfl rfl (cat8 rfl) (fun M hS => ?_)
    refine q_if_ne_f 738 dL_change_731 (by decide) (pass_spoilt hV) ?_
    refine q_iconstv (v := 1) dL_change_734 (by decide) ?_
    refine q_goto 739 dL_change_735 (by decide) ?_
    refine q_istore dL_change_739 (by decide) rfl ?_
    exact ch_drop (ch_tailB hK hS (MB_pass (hB.le (d := c + 1) (by omega))) (Int32.not_lt.mpr (thr_pos hV)))
  · refine q_bipushv (v := -4) dL_change_711 (by decide) ?_
    refine q_goto 723 dL_change_713 (by decide) ?_
    refine q_icmp_ne_f 738 dL_change_723 (by decide) (h92 c_708) ?_
    refine q_aload_n dL_change_726 rfl ?_
    refine q_iconstv (v := 5) dL_change_727 (by decide) ?_
    refine q_callV (as := [_]) okX5_count lkL_9 dL_change_728 rfl (by decide) rfl (q_count_5 hS) (by omega) rfl (by simp [Value.category]) (Nat.le_of_ble_eq_true rfl) rfl rfl (cat8 rfl) (fun M hS => ?_)
    refine q_if_ne_f 738 dL_change_731 (by decide) (pass_spoilt hV) ?_
    refine q_iconstv (v := 1) dL_change_734 (by decide) ?_
    refine q_goto 739 dL_change_735 (by decide) ?_
    refine q_istore dL_change_739 (by decide) rfl ?_
    exact ch_drop (ch_tailB hK hS (MB_pass (hB.le (d := c + 1) (by omega))) (Int32.not_lt.mpr (thr_pos hV)))
theorem ch_switch (hS : St V K h M) (hB : MB V c) (hc : c + 2 < 2 ^ 31) (htn : t ≤ nT V) {kd0 : Nat} (hk0 : kd0 < 2 ^ 31) : YQ none 23 mL_change 34 [some (.ref 0), some (.int (nI kd0)), some (.int a), some (.int b), some (.int (nI (nT V))), some (.int (nI K)), some (.int (nI t)), some (.int 0), some (.int 0), some (.int 1), none, none, none, none, none, none, none, none] [] M (some (.int 1)) (Post (c + 1)) := by
  have h7 := n_7 hS.W
  rcases (show kd0 = 0 ∨ kd0 = 1 ∨ kd0 = 2 ∨ kd0 = 3 ∨ kd0 = 4 ∨ kd0 = 5 ∨ kd0 = 6 ∨ kd0 = 7 ∨ kd0 = 8 ∨ kd0 = 9 ∨ kd0 = 10 ∨ kd0 = 11 ∨ kd0 = 12 ∨ 13 ≤ kd0 by omega) with rfl | rfl | rfl | rfl | rfl | rfl | rfl | rfl | rfl | rfl | rfl | rfl | rfl | hk
  · refine q_iload_n dL_change_34 rfl ?_
    refine q_tableIn (off := 65) 100 dL_change_35 (by decide) (by decide) (by decide) (by decide) ?_
    rcases Nat.lt_or_ge (nT V) 7 with q | q
    · exact ch_come hS hB hc q
    · exact ch_come7 hS hB hc (by omega)
  · refine q_iload_n dL_change_34 rfl ?_
    refine q_tableIn (off := 65) 100 dL_change_35 (by decide) (by decide) (by decide) (by decide) ?_
    rcases Nat.lt_or_ge (nT V) 7 with q | q
    · exact ch_come hS hB hc q
    · exact ch_come7 hS hB hc (by omega)
  · refine q_iload_n dL_change_34 rfl ?_
    refine q_tableIn (off := 65) 100 dL_change_35 (by decide) (by decide) (by decide) (by decide) ?_
    rcases Nat.lt_or_ge (nT V) 7 with q | q
    · exact ch_come hS hB hc q
    · exact ch_come7 hS hB hc (by omega)
  · refine q_iload_n dL_change_34 rfl ?_
    refine q_tableIn (off := 143) 178 dL_change_35 (by decide) (by decide) (by decide) (by decide) ?_
    rcases Nat.lt_or_ge t (nT V) with q | q
    · exact ch_go1 hS hB hc q
    · have e : t = nT V := by omega
      rw [e]
      exact ch_go0 hS hB hc
  · refine q_iload_n dL_change_34 rfl ?_
    refine q_tableIn (off := 214) 249 dL_change_35 (by decide) (by decide) (by decide) (by decide) ?_
    rcases Nat.lt_or_ge t (nT V) with q | q
    · exact ch_want1 hS hB hc q
    · have e : t = nT V := by omega
      rw [e]
      exact ch_want0 hS hB hc
  · refine q_iload_n dL_change_34 rfl ?_
    refine q_tableIn (off := 214) 249 dL_change_35 (by decide) (by decide) (by decide) (by decide) ?_
    rcases Nat.lt_or_ge t (nT V) with q | q
    · exact ch_want1 hS hB hc q
    · have e : t = nT V := by omega
      rw [e]
      exact ch_want0 hS hB hc
  · refine q_iload_n dL_change_34 rfl ?_
    refine q_tableIn (off := 271) 306 dL_change_35 (by decide) (by decide) (by decide) (by decide) ?_
    exact ch_life hS hB hc
  · refine q_iload_n dL_change_34 rfl ?_
    refine q_tableIn (off := 343) 378 dL_change_35 (by decide) (by decide) (by decide) (by decide) ?_
    exact ch_circle hS hB hc
  · refine q_iload_n dL_change_34 rfl ?_
    refine q_tableIn (off := 382) 417 dL_change_35 (by decide) (by decide) (by decide) (by decide) ?_
    exact ch_lot hS hB hc
  · refine q_iload_n dL_change_34 rfl ?_
    refine q_tableIn (off := 420) 455 dL_change_35 (by decide) (by decide) (by decide) (by decide) ?_
    exact ch_bart hS hB hc htn
  · refine q_iload_n dL_change_34 rfl ?_
    refine q_tableIn (off := 420) 455 dL_change_35 (by decide) (by decide) (by decide) (by decide) ?_
    exact ch_bart hS hB hc htn
  · refine q_iload_n dL_change_34 rfl ?_
    refine q_tableIn (off := 453) 488 dL_change_35 (by decide) (by decide) (by decide) (by decide) ?_
    exact ch_call hS hB hc
  · refine q_iload_n dL_change_34 rfl ?_
    refine q_tableIn (off := 453) 488 dL_change_35 (by decide) (by decide) (by decide) (by decide) ?_
    exact ch_call hS hB hc
  · refine q_iload_n dL_change_34 rfl ?_
    refine q_tableOut 579 dL_change_35 (Or.inr (by rw [nI_toInt hk0]; omega)) (by decide) ?_
    exact ch_day hS hB hc
theorem q_change (hS : St V K h M) (hB : MB V c) (hc : c + 2 < 2 ^ 31) {kd0 : Nat} (hk0 : kd0 < 2 ^ 31) : YQ none 23 mL_change 0 (lent 18 [.ref 0, .int (nI kd0), .int a, .int b]) [] M (some (.int 1)) (Post (c + 1)) := by
  have h7 := n_7 hS.W
  skip
  refine q_aload_n dL_change_0 rfl ?_
  refine q_iconstv (v := 1) dL_change_1 (by decide) ?_
  refine q_callV (as := [_]) okX5_count lkL_9 dL_change_2 rfl (by decide) rfl (q_count_1 hS) (by omega) rfl (by simp [Value.category]) (Nat.le_of_ble_eq_true rfl) rfl rfl (cat8 rfl) (fun M hS => ?_)
  refine q_istore dL_change_5 (by decide) rfl ?_
  refine q_aload_n dL_change_7 rfl ?_
  refine q_bipushv (v := 15) dL_change_8 (by decide) ?_
  refine q_callV (as := [_]) okX5_count lkL_9 dL_change_10 rfl (by decide) rfl (q_count_15 hS) (by omega) rfl (by simp [Value.category]) (Nat.le_of_ble_eq_true rfl) rfl rfl (cat8 rfl) (fun M hS => ?_)
  refine q_istore dL_change_13 (by decide) rfl ?_
  refine q_iload_n dL_change_15 rfl ?_
  refine q_iload dL_change_16 rfl ?_
  refine q_iconstv (v := 1) dL_change_18 (by decide) ?_
  refine q_iadd dL_change_19 ?_
  rw [nI_1]
  refine q_callS (as := [_, _]) okL_low lkL_15 dL_change_20 rfl (q_low hS (n := nT V + 1) (by omega) (by omega)) (by omega) rfl (by simp [Value.category]) (Nat.le_of_ble_eq_true rfl) (cat8 rfl) (fun M hS => ?_)
  refine q_istore dL_change_23 (by decide) rfl ?_
  refine q_iconstv (v := 0) dL_change_25 (by decide) ?_
  refine q_istore dL_change_26 (by decide) rfl ?_
  refine q_iconstv (v := 0) dL_change_28 (by decide) ?_
  refine q_istore dL_change_29 (by decide) rfl ?_
  refine q_iconstv (v := 1) dL_change_31 (by decide) ?_
  refine q_istore dL_change_32 (by decide) rfl ?_
  exact ch_switch hS hB hc (by have := lowN_lt (v := a) (n := nT V + 1) (by omega); omega) hk0
end CH
