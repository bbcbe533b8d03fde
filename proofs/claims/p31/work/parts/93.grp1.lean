theorem y_count_0 {M : Mem} {V : Row} (hR : RM M 1 V) (hV : WF V) : Y 8 mX5_count 0 (lent 2 [.ref 0, .int (nI 0)]) [] M (some (.int (V 0))) M := by
  skip
  refine x_iload_n dX5_count_0 rfl ?_
  refine x_tableIn (off := 79) 80 dX5_count_1 (by decide) (by decide) (by decide) (by decide) ?_
  refine x_aload_n dX5_count_80 rfl ?_
  refine y_getR fkX5_10 dX5_count_81 (by decide) rfl rfl ?_
  refine y_getI fkX5_210 dX5_count_84 (by decide) rfl rfl ?_
  exact y_ret dX5_count_87 rfl (rfl) (hR.1.2.2.1) (rfl)
theorem y_count_1 {M : Mem} {V : Row} (hR : RM M 1 V) (hV : WF V) : Y 8 mX5_count 0 (lent 2 [.ref 0, .int (nI 1)]) [] M (some (.int (V 1))) M := by
  skip
  refine x_iload_n dX5_count_0 rfl ?_
  refine x_tableIn (off := 87) 88 dX5_count_1 (by decide) (by decide) (by decide) (by decide) ?_
  refine x_aload_n dX5_count_88 rfl ?_
  refine y_getR fkX5_10 dX5_count_89 (by decide) rfl rfl ?_
  refine y_getI fkX5_61 dX5_count_92 (by decide) rfl rfl ?_
  exact y_ret dX5_count_95 rfl (rfl) (hR.1.1) (rfl)
theorem y_count_2 {M : Mem} {V : Row} (hR : RM M 1 V) (hV : WF V) : Y 8 mX5_count 0 (lent 2 [.ref 0, .int (nI 2)]) [] M (some (.int (needsV V))) M := by
  skip
  refine x_iload_n dX5_count_0 rfl ?_
  refine x_tableIn (off := 95) 96 dX5_count_1 (by decide) (by decide) (by decide) (by decide) ?_
  refine x_aload_n dX5_count_96 rfl ?_
  refine y_getR fkX5_10 dX5_count_97 (by decide) rfl rfl ?_
  refine y_callV0 okX2_needs lkX5_213 dX5_count_100 (by decide) rfl (((y_needs mk1 hR hV).more (d' := 7) (by omega))) (by omega) (Nat.le_of_ble_eq_true rfl) rfl rfl (cat8 rfl) ?_
  exact y_ret dX5_count_103 rfl (rfl) (rfl) (rfl)
theorem y_count_3 {M : Mem} {V : Row} (hR : RM M 1 V) (hV : WF V) : Y 8 mX5_count 0 (lent 2 [.ref 0, .int (nI 3)]) [] M (some (.int (V 2))) M := by
  skip
  refine x_iload_n dX5_count_0 rfl ?_
  refine x_tableIn (off := 103) 104 dX5_count_1 (by decide) (by decide) (by decide) (by decide) ?_
  refine x_aload_n dX5_count_104 rfl ?_
  refine y_getR fkX5_10 dX5_count_105 (by decide) rfl rfl ?_
  refine y_callV0 okX2_needsMet lkX5_141 dX5_count_108 (by decide) rfl (((y_needsMet mk1 hR hV).more (d' := 7) (by omega))) (by omega) (Nat.le_of_ble_eq_true rfl) rfl rfl (cat8 rfl) ?_
  exact y_ret dX5_count_111 rfl (rfl) (rfl) (rfl)
theorem y_count_4 {M : Mem} {V : Row} (hR : RM M 1 V) (hV : WF V) : Y 8 mX5_count 0 (lent 2 [.ref 0, .int (nI 4)]) [] M (some (.int (soundV V))) M := by
  skip
  refine x_iload_n dX5_count_0 rfl ?_
  refine x_tableIn (off := 111) 112 dX5_count_1 (by decide) (by decide) (by decide) (by decide) ?_
  refine x_aload_n dX5_count_112 rfl ?_
  refine y_getR fkX5_10 dX5_count_113 (by decide) rfl rfl ?_
  refine y_callV0 okX2_soundWares lkX5_216 dX5_count_116 (by decide) rfl (((y_soundWares mk1 hR hV).more (d' := 7) (by omega))) (by omega) (Nat.le_of_ble_eq_true rfl) rfl rfl (cat8 rfl) ?_
  exact y_ret dX5_count_119 rfl (rfl) (rfl) (rfl)
theorem y_count_5 {M : Mem} {V : Row} (hR : RM M 1 V) (hV : WF V) : Y 8 mX5_count 0 (lent 2 [.ref 0, .int (nI 5)]) [] M (some (.int (spoiltV V))) M := by
  skip
  refine x_iload_n dX5_count_0 rfl ?_
  refine x_tableIn (off := 119) 120 dX5_count_1 (by decide) (by decide) (by decide) (by decide) ?_
  refine x_aload_n dX5_count_120 rfl ?_
  refine y_getR fkX5_10 dX5_count_121 (by decide) rfl rfl ?_
  refine y_callV0 okX2_spoiltWares lkX5_219 dX5_count_124 (by decide) rfl (((y_spoiltWares mk1 hR hV).more (d' := 7) (by omega))) (by omega) (Nat.le_of_ble_eq_true rfl) rfl rfl (cat8 rfl) ?_
  exact y_ret dX5_count_127 rfl (rfl) (rfl) (rfl)
theorem y_count_6 {M : Mem} {V : Row} (hR : RM M 1 V) (hV : WF V) : Y 8 mX5_count 0 (lent 2 [.ref 0, .int (nI 6)]) [] M (some (.int (V 3))) M := by
  skip
  refine x_iload_n dX5_count_0 rfl ?_
  refine x_tableIn (off := 127) 128 dX5_count_1 (by decide) (by decide) (by decide) (by decide) ?_
  refine x_aload_n dX5_count_128 rfl ?_
  refine y_getR fkX5_10 dX5_count_129 (by decide) rfl rfl ?_
  refine y_getI fkX5_222 dX5_count_132 (by decide) rfl rfl ?_
  exact y_ret dX5_count_135 rfl (rfl) (hR.1.2.2.2.2.2.1) (rfl)
theorem y_count_7 {M : Mem} {V : Row} (hR : RM M 1 V) (hV : WF V) : Y 8 mX5_count 0 (lent 2 [.ref 0, .int (nI 7)]) [] M (some (.int (V 4))) M := by
  skip
  refine x_iload_n dX5_count_0 rfl ?_
  refine x_tableIn (off := 135) 136 dX5_count_1 (by decide) (by decide) (by decide) (by decide) ?_
  refine x_aload_n dX5_count_136 rfl ?_
  refine y_getR fkX5_10 dX5_count_137 (by decide) rfl rfl ?_
  refine y_getI fkX5_225 dX5_count_140 (by decide) rfl rfl ?_
  exact y_ret dX5_count_143 rfl (rfl) (hR.1.2.2.2.2.2.2.1) (rfl)
theorem y_count_8 {M : Mem} {V : Row} (hR : RM M 1 V) (hV : WF V) : Y 8 mX5_count 0 (lent 2 [.ref 0, .int (nI 8)]) [] M (some (.int (V 5))) M := by
  skip
  refine x_iload_n dX5_count_0 rfl ?_
  refine x_tableIn (off := 143) 144 dX5_count_1 (by decide) (by decide) (by decide) (by decide) ?_
  refine x_aload_n dX5_count_144 rfl ?_
  refine y_getR fkX5_10 dX5_count_145 (by decide) rfl rfl ?_
  refine y_getI fkX5_228 dX5_count_148 (by decide) rfl rfl ?_
  exact y_ret dX5_count_151 rfl (rfl) (hR.1.2.2.2.2.2.2.2.1) (rfl)
theorem y_count_9 {M : Mem} {V : Row} (hR : RM M 1 V) (hV : WF V) : Y 8 mX5_count 0 (lent 2 [.ref 0, .int (nI 9)]) [] M (some (.int (V 6))) M := by
  skip
  refine x_iload_n dX5_count_0 rfl ?_
  refine x_tableIn (off := 151) 152 dX5_count_1 (by decide) (by decide) (by decide) (by decide) ?_
  refine x_aload_n dX5_count_152 rfl ?_
  refine y_getR fkX5_10 dX5_count_153 (by decide) rfl rfl ?_
  refine y_getI fkX5_231 dX5_count_156 (by decide) rfl rfl ?_
  exact y_ret dX5_count_159 rfl (rfl) (hR.1.2.2.2.2.2.2.2.2.1) (rfl)
theorem y_count_10 {M : Mem} {V : Row} (hR : RM M 1 V) (hV : WF V) : Y 8 mX5_count 0 (lent 2 [.ref 0, .int (nI 10)]) [] M (some (.int (stuckV V))) M := by
  skip
  refine x_iload_n dX5_count_0 rfl ?_
  refine x_tableIn (off := 159) 160 dX5_count_1 (by decide) (by decide) (by decide) (by decide) ?_
  refine x_aload_n dX5_count_160 rfl ?_
  refine y_getR fkX5_10 dX5_count_161 (by decide) rfl rfl ?_
  refine y_callV0 okX2_stuckTraders lkX5_234 dX5_count_164 (by decide) rfl (((y_stuck mk1 hR hV).more (d' := 7) (by omega))) (by omega) (Nat.le_of_ble_eq_true rfl) rfl rfl (cat8 rfl) ?_
  exact y_ret dX5_count_167 rfl (rfl) (rfl) (rfl)
theorem y_count_11 {M : Mem} {V : Row} (hR : RM M 1 V) (hV : WF V) : Y 8 mX5_count 0 (lent 2 [.ref 0, .int (nI 11)]) [] M (some (.int (V 7))) M := by
  skip
  refine x_iload_n dX5_count_0 rfl ?_
  refine x_tableIn (off := 167) 168 dX5_count_1 (by decide) (by decide) (by decide) (by decide) ?_
  refine x_aload_n dX5_count_168 rfl ?_
  refine y_getR fkX5_10 dX5_count_169 (by decide) rfl rfl ?_
  refine y_getI fkX5_92 dX5_count_172 (by decide) rfl rfl ?_
  exact y_ret dX5_count_175 rfl (rfl) (hR.1.2.1) (rfl)
theorem y_count_12 {M : Mem} {V : Row} (hR : RM M 1 V) (hV : WF V) : Y 8 mX5_count 0 (lent 2 [.ref 0, .int (nI 12)]) [] M (some (.int (V 8))) M := by
  skip
  refine x_iload_n dX5_count_0 rfl ?_
  refine x_tableIn (off := 175) 176 dX5_count_1 (by decide) (by decide) (by decide) (by decide) ?_
  refine x_aload_n dX5_count_176 rfl ?_
  refine y_getR fkX5_10 dX5_count_177 (by decide) rfl rfl ?_
  refine y_getI fkX5_95 dX5_count_180 (by decide) rfl rfl ?_
  exact y_ret dX5_count_183 rfl (rfl) (hR.1.2.2.2.1) (rfl)
theorem y_count_14 {M : Mem} {V : Row} (hR : RM M 1 V) (hV : WF V) : Y 8 mX5_count 0 (lent 2 [.ref 0, .int (nI 14)]) [] M (some (.int (M 73 0))) M := by
  skip
  refine x_iload_n dX5_count_0 rfl ?_
  refine x_tableIn (off := 207) 208 dX5_count_1 (by decide) (by decide) (by decide) (by decide) ?_
  refine x_aload_n dX5_count_208 rfl ?_
  refine y_getR fkX5_32 dX5_count_209 (by decide) rfl rfl ?_
  refine y_getI fkX5_114 dX5_count_212 (by decide) rfl rfl ?_
  exact y_ret dX5_count_215 rfl (rfl) (rfl) (rfl)
theorem y_count_15 {M : Mem} {V : Row} (hR : RM M 1 V) (hV : WF V) : Y 8 mX5_count 0 (lent 2 [.ref 0, .int (nI 15)]) [] M (some (.int (M 31 0))) M := by
  skip
  refine x_iload_n dX5_count_0 rfl ?_
  refine x_tableIn (off := 215) 216 dX5_count_1 (by decide) (by decide) (by decide) (by decide) ?_
  refine x_aload_n dX5_count_216 rfl ?_
  refine y_getR fkX5_25 dX5_count_217 (by decide) rfl rfl ?_
  refine y_getI fkX5_237 dX5_count_220 (by decide) rfl rfl ?_
  exact y_ret dX5_count_223 rfl (rfl) (rfl) (rfl)
theorem y_count_13 {M : Mem} {V : Row} (hR : RM M 1 V) (hV : WF V) : Y 8 mX5_count 0 (lent 2 [.ref 0, .int (nI 13)]) [] M (some (.int (V 9))) M := by
  rcases hR.1.2.2.2.2.1 with ⟨h1, h2⟩ | ⟨h1, h2⟩
  · skip
    refine x_iload_n dX5_count_0 rfl ?_
    refine x_tableIn (off := 183) 184 dX5_count_1 (by decide) (by decide) (by decide) (by decide) ?_
    refine x_aload_n dX5_count_184 rfl ?_
    refine y_getR fkX5_10 dX5_count_185 (by decide) rfl rfl ?_
    refine y_getI fkX5_165 dX5_count_188 (by decide) rfl rfl ?_
    rw [h1]
    refine x_iconstv (v := -1) dX5_count_191 (by decide) ?_
    refine x_icmp_ne 200 dX5_count_192 (by decide) (fun c_192 => ?_) (fun c_192 => ?_)
    · exact absurd rfl c_192
    · refine x_bipushv (v := -4) dX5_count_195 (by decide) ?_
      refine x_goto 207 dX5_count_197 (by decide) ?_
      exact y_ret dX5_count_207 rfl (rfl) (h2.symm) (rfl)
  · obtain ⟨j, hj, hq⟩ := vp_in_of h2 (by have := (WF_n hV).1; omega)
    have hj7 := (WF_n hV).1
    have hne : ¬ V 9 = -1 := by rw [hq]; exact m1_nI (by omega)
    skip
    refine x_iload_n dX5_count_0 rfl ?_
    refine x_tableIn (off := 183) 184 dX5_count_1 (by decide) (by decide) (by decide) (by decide) ?_
    refine x_aload_n dX5_count_184 rfl ?_
    refine y_getR fkX5_10 dX5_count_185 (by decide) rfl rfl ?_
    refine y_getI fkX5_165 dX5_count_188 (by decide) rfl rfl ?_
    rw [h1]
    refine x_iconstv (v := -1) dX5_count_191 (by decide) ?_
    refine x_icmp_ne 200 dX5_count_192 (by decide) (fun c_192 => ?_) (fun c_192 => ?_)
    · refine x_aload_n dX5_count_200 rfl ?_
      refine y_getR fkX5_10 dX5_count_201 (by decide) rfl rfl ?_
      refine y_getI fkX5_165 dX5_count_204 (by decide) rfl rfl ?_
      rw [h1]
      exact y_ret dX5_count_207 rfl (rfl) (rfl) (rfl)
    · exact absurd c_192 hne
theorem y_count_d {M : Mem} {x : Int32} (hx : x.toInt < 0 ∨ 15 < x.toInt) : Y 8 mX5_count 0 (lent 2 [.ref 0, .int x]) [] M (some (.int (-1))) M := by
  skip
  refine x_iload_n dX5_count_0 rfl ?_
  refine x_tableOut 224 dX5_count_1 (hx) (by decide) ?_
  refine x_iconstv (v := -1) dX5_count_224 (by decide) ?_
  exact y_ret dX5_count_225 rfl (rfl) (rfl) (rfl)
theorem y_trader_0 {M : Mem} {V : Row} (hR : RM M 1 V) (hV : WF V) {t : Nat} (ht : t < nT V) : Y 8 mX5_trader 0 (lent 3 [.ref 0, .int (nI t), .int (nI 0)]) [] M (some (.int (V (22 + 5 * t)))) M := by
  have hh := y_hasT mk1 hR hV ht
  have h7 := b6 hV ht
  have hw := y_hasWare mk1 hR hV ht
  skip
  refine x_aload_n dX5_trader_0 rfl ?_
  refine y_getR fkX5_10 dX5_trader_1 (by decide) rfl rfl ?_
  refine x_iload_n dX5_trader_4 rfl ?_
  refine y_callV (as := [_]) okX2_has lkX5_72 dX5_trader_5 rfl (by decide) rfl ((hh.more (d' := 7) (by omega))) (by omega) rfl (by simp [Value.category]) (Nat.le_of_ble_eq_true rfl) rfl rfl (cat8 rfl) ?_
  refine x_if_ne 13 dX5_trader_8 (by decide) (fun c_8 => ?_) (fun c_8 => ?_)
  · refine x_iload_n dX5_trader_13 rfl ?_
    refine x_tableIn (off := 54) 68 dX5_trader_14 (by decide) (by decide) (by decide) (by decide) ?_
    refine x_aload_n dX5_trader_68 rfl ?_
    refine y_getR fkX5_10 dX5_trader_69 (by decide) rfl rfl ?_
    refine y_getR fkX5_150 dX5_trader_72 (by decide) rfl rfl ?_
    refine x_iload_n dX5_trader_75 rfl ?_
    refine y_ialdn (j := t) dX5_trader_76 (by decide) rfl (ixN (by omega)) (by omega) ?_
    exact y_ret dX5_trader_77 rfl (rfl) ((hR.2.2 t ht).1) (rfl)
  · exact absurd c_8 (by decide)
theorem y_trader_1 {M : Mem} {V : Row} (hR : RM M 1 V) (hV : WF V) {t : Nat} (ht : t < nT V) : Y 8 mX5_trader 0 (lent 3 [.ref 0, .int (nI t), .int (nI 1)]) [] M (some (.int (V (23 + 5 * t)))) M := by
  have hh := y_hasT mk1 hR hV ht
  have h7 := b6 hV ht
  have hw := y_hasWare mk1 hR hV ht
  skip
  refine x_aload_n dX5_trader_0 rfl ?_
  refine y_getR fkX5_10 dX5_trader_1 (by decide) rfl rfl ?_
  refine x_iload_n dX5_trader_4 rfl ?_
  refine y_callV (as := [_]) okX2_has lkX5_72 dX5_trader_5 rfl (by decide) rfl ((hh.more (d' := 7) (by omega))) (by omega) rfl (by simp [Value.category]) (Nat.le_of_ble_eq_true rfl) rfl rfl (cat8 rfl) ?_
  refine x_if_ne 13 dX5_trader_8 (by decide) (fun c_8 => ?_) (fun c_8 => ?_)
  · refine x_iload_n dX5_trader_13 rfl ?_
    refine x_tableIn (off := 64) 78 dX5_trader_14 (by decide) (by decide) (by decide) (by decide) ?_
    refine x_aload_n dX5_trader_78 rfl ?_
    refine y_getR fkX5_10 dX5_trader_79 (by decide) rfl rfl ?_
    refine y_getR fkX5_83 dX5_trader_82 (by decide) rfl rfl ?_
    refine x_iload_n dX5_trader_85 rfl ?_
    refine y_ialdn (j := t) dX5_trader_86 (by decide) rfl (ixN (by omega)) (by omega) ?_
    exact y_ret dX5_trader_87 rfl (rfl) ((hR.2.2 t ht).2.1) (rfl)
  · exact absurd c_8 (by decide)
theorem y_trader_2 {M : Mem} {V : Row} (hR : RM M 1 V) (hV : WF V) {t : Nat} (ht : t < nT V) : Y 8 mX5_trader 0 (lent 3 [.ref 0, .int (nI t), .int (nI 2)]) [] M (some (.int (V (24 + 5 * t)))) M := by
  have hh := y_hasT mk1 hR hV ht
  have h7 := b6 hV ht
  have hw := y_hasWare mk1 hR hV ht
  skip
  refine x_aload_n dX5_trader_0 rfl ?_
  refine y_getR fkX5_10 dX5_trader_1 (by decide) rfl rfl ?_
  refine x_iload_n dX5_trader_4 rfl ?_
  refine y_callV (as := [_]) okX2_has lkX5_72 dX5_trader_5 rfl (by decide) rfl ((hh.more (d' := 7) (by omega))) (by omega) rfl (by simp [Value.category]) (Nat.le_of_ble_eq_true rfl) rfl rfl (cat8 rfl) ?_
  refine x_if_ne 13 dX5_trader_8 (by decide) (fun c_8 => ?_) (fun c_8 => ?_)
  · refine x_iload_n dX5_trader_13 rfl ?_
    refine x_tableIn (off := 74) 88 dX5_trader_14 (by decide) (by decide) (by decide) (by decide) ?_
    refine x_aload_n dX5_trader_88 rfl ?_
    refine y_getR fkX5_10 dX5_trader_89 (by decide) rfl rfl ?_
    refine x_iload_n dX5_trader_92 rfl ?_
    refine y_callV (as := [_]) okX2_hasWare lkX5_153 dX5_trader_93 rfl (by decide) rfl ((hw.more (d' := 7) (by omega))) (by omega) rfl (by simp [Value.category]) (Nat.le_of_ble_eq_true rfl) rfl rfl (cat8 rfl) ?_
    refine x_if_eq 111 dX5_trader_96 (by decide) (fun c_96 => ?_) (fun c_96 => ?_)
    · exact absurd c_96 (by decide)
    · refine x_aload_n dX5_trader_99 rfl ?_
      refine y_getR fkX5_10 dX5_trader_100 (by decide) rfl rfl ?_
      refine y_getR fkX5_156 dX5_trader_103 (by decide) rfl rfl ?_
      refine x_iload_n dX5_trader_106 rfl ?_
      refine y_ialdn (j := t) dX5_trader_107 (by decide) rfl (ixN (by omega)) (by omega) ?_
      refine x_goto 113 dX5_trader_108 (by decide) ?_
      exact y_ret dX5_trader_113 rfl (rfl) ((hR.2.2 t ht).2.2.1) (rfl)
  · exact absurd c_8 (by decide)
theorem y_trader_3 {M : Mem} {V : Row} (hR : RM M 1 V) (hV : WF V) {t : Nat} (ht : t < nT V) : Y 8 mX5_trader 0 (lent 3 [.ref 0, .int (nI t), .int (nI 3)]) [] M (some (.int (V (25 + 5 * t)))) M := by
  have hh := y_hasT mk1 hR hV ht
  have h7 := b6 hV ht
  have hw := y_hasWare mk1 hR hV ht
  skip
  refine x_aload_n dX5_trader_0 rfl ?_
  refine y_getR fkX5_10 dX5_trader_1 (by decide) rfl rfl ?_
  refine x_iload_n dX5_trader_4 rfl ?_
  refine y_callV (as := [_]) okX2_has lkX5_72 dX5_trader_5 rfl (by decide) rfl ((hh.more (d' := 7) (by omega))) (by omega) rfl (by simp [Value.category]) (Nat.le_of_ble_eq_true rfl) rfl rfl (cat8 rfl) ?_
  refine x_if_ne 13 dX5_trader_8 (by decide) (fun c_8 => ?_) (fun c_8 => ?_)
  · refine x_iload_n dX5_trader_13 rfl ?_
    refine x_tableIn (off := 100) 114 dX5_trader_14 (by decide) (by decide) (by decide) (by decide) ?_
    refine x_aload_n dX5_trader_114 rfl ?_
    refine y_getR fkX5_10 dX5_trader_115 (by decide) rfl rfl ?_
    refine x_iload_n dX5_trader_118 rfl ?_
    refine y_callV (as := [_]) okX2_hasWare lkX5_153 dX5_trader_119 rfl (by decide) rfl ((hw.more (d' := 7) (by omega))) (by omega) rfl (by simp [Value.category]) (Nat.le_of_ble_eq_true rfl) rfl rfl (cat8 rfl) ?_
    refine x_if_eq 137 dX5_trader_122 (by decide) (fun c_122 => ?_) (fun c_122 => ?_)
    · exact absurd c_122 (by decide)
    · refine x_aload_n dX5_trader_125 rfl ?_
      refine y_getR fkX5_10 dX5_trader_126 (by decide) rfl rfl ?_
      refine y_getR fkX5_159 dX5_trader_129 (by decide) rfl rfl ?_
      refine x_iload_n dX5_trader_132 rfl ?_
      refine y_ialdn (j := t) dX5_trader_133 (by decide) rfl (ixN (by omega)) (by omega) ?_
      refine x_goto 139 dX5_trader_134 (by decide) ?_
      exact y_ret dX5_trader_139 rfl (rfl) ((hR.2.2 t ht).2.2.2.1) (rfl)
  · exact absurd c_8 (by decide)
theorem y_trader_4 {M : Mem} {V : Row} (hR : RM M 1 V) (hV : WF V) {t : Nat} (ht : t < nT V) : Y 8 mX5_trader 0 (lent 3 [.ref 0, .int (nI t), .int (nI 4)]) [] M (some (.int (dl V t))) M := by
  have hh := y_hasT mk1 hR hV ht
  have h7 := b6 hV ht
  have hw := y_hasWare mk1 hR hV ht
  skip
  refine x_aload_n dX5_trader_0 rfl ?_
  refine y_getR fkX5_10 dX5_trader_1 (by decide) rfl rfl ?_
  refine x_iload_n dX5_trader_4 rfl ?_
  refine y_callV (as := [_]) okX2_has lkX5_72 dX5_trader_5 rfl (by decide) rfl ((hh.more (d' := 7) (by omega))) (by omega) rfl (by simp [Value.category]) (Nat.le_of_ble_eq_true rfl) rfl rfl (cat8 rfl) ?_
  refine x_if_ne 13 dX5_trader_8 (by decide) (fun c_8 => ?_) (fun c_8 => ?_)
  · refine x_iload_n dX5_trader_13 rfl ?_
    refine x_tableIn (off := 126) 140 dX5_trader_14 (by decide) (by decide) (by decide) (by decide) ?_
    refine x_aload_n dX5_trader_140 rfl ?_
    refine y_getR fkX5_10 dX5_trader_141 (by decide) rfl rfl ?_
    refine x_iload_n dX5_trader_144 rfl ?_
    refine y_callV (as := [_]) okX2_hasWare lkX5_153 dX5_trader_145 rfl (by decide) rfl ((hw.more (d' := 7) (by omega))) (by omega) rfl (by simp [Value.category]) (Nat.le_of_ble_eq_true rfl) rfl rfl (cat8 rfl) ?_
    refine x_if_eq 162 dX5_trader_148 (by decide) (fun c_148 => ?_) (fun c_148 => ?_)
    · exact absurd c_148 (by decide)
    · refine x_aload_n dX5_trader_151 rfl ?_
      refine y_getR fkX5_10 dX5_trader_152 (by decide) rfl rfl ?_
      refine x_iload_n dX5_trader_155 rfl ?_
      refine y_callV (as := [_]) okX2_daysLeft lkX5_162 dX5_trader_156 rfl (by decide) rfl (((y_daysLeft mk1 hR hV ht).more (d' := 7) (by omega))) (by omega) rfl (by simp [Value.category]) (Nat.le_of_ble_eq_true rfl) rfl rfl (cat8 rfl) ?_
      refine x_goto 164 dX5_trader_159 (by decide) ?_
      exact y_ret dX5_trader_164 rfl (rfl) (rfl) (rfl)
  · exact absurd c_8 (by decide)
theorem y_trader_5 {M : Mem} {V : Row} (hR : RM M 1 V) (hV : WF V) {t : Nat} (ht : t < nT V) : Y 8 mX5_trader 0 (lent 3 [.ref 0, .int (nI t), .int (nI 5)]) [] M (some (.int (ind (V 9 = nI t)))) M := by
  have hh := y_hasT mk1 hR hV ht
  have h7 := b6 hV ht
  have hw := y_hasWare mk1 hR hV ht
  skip
  refine x_aload_n dX5_trader_0 rfl ?_
  refine y_getR fkX5_10 dX5_trader_1 (by decide) rfl rfl ?_
  refine x_iload_n dX5_trader_4 rfl ?_
  refine y_callV (as := [_]) okX2_has lkX5_72 dX5_trader_5 rfl (by decide) rfl ((hh.more (d' := 7) (by omega))) (by omega) rfl (by simp [Value.category]) (Nat.le_of_ble_eq_true rfl) rfl rfl (cat8 rfl) ?_
  refine x_if_ne 13 dX5_trader_8 (by decide) (fun c_8 => ?_) (fun c_8 => ?_)
  · refine x_iload_n dX5_trader_13 rfl ?_
    refine x_tableIn (off := 151) 165 dX5_trader_14 (by decide) (by decide) (by decide) (by decide) ?_
    refine x_aload_n dX5_trader_165 rfl ?_
    refine y_getR fkX5_10 dX5_trader_166 (by decide) rfl rfl ?_
    refine y_getI fkX5_165 dX5_trader_169 (by decide) rfl rfl ?_
    refine x_iload_n dX5_trader_172 rfl ?_
    refine x_icmp_ne 180 dX5_trader_173 (by decide) (fun c_173 => ?_) (fun c_173 => ?_)
    · refine x_iconstv (v := 0) dX5_trader_180 (by decide) ?_
      exact y_ret dX5_trader_181 rfl (rfl) ((if_neg (fun q => absurd ((sh_eq hR hV ht).mpr q).symm c_173)).symm) (rfl)
    · refine x_iconstv (v := 1) dX5_trader_176 (by decide) ?_
      refine x_goto 181 dX5_trader_177 (by decide) ?_
      exact y_ret dX5_trader_181 rfl (rfl) ((if_pos ((sh_eq hR hV ht).mp (Eq.symm (by simpa using c_173)))).symm) (rfl)
  · exact absurd c_8 (by decide)
theorem y_trader_6 {M : Mem} {V : Row} (hR : RM M 1 V) (hV : WF V) {t : Nat} (ht : t < nT V) : Y 8 mX5_trader 0 (lent 3 [.ref 0, .int (nI t), .int (nI 6)]) [] M (some (.int (V (26 + 5 * t)))) M := by
  have hh := y_hasT mk1 hR hV ht
  have h7 := b6 hV ht
  have hw := y_hasWare mk1 hR hV ht
  skip
  refine x_aload_n dX5_trader_0 rfl ?_
  refine y_getR fkX5_10 dX5_trader_1 (by decide) rfl rfl ?_
  refine x_iload_n dX5_trader_4 rfl ?_
  refine y_callV (as := [_]) okX2_has lkX5_72 dX5_trader_5 rfl (by decide) rfl ((hh.more (d' := 7) (by omega))) (by omega) rfl (by simp [Value.category]) (Nat.le_of_ble_eq_true rfl) rfl rfl (cat8 rfl) ?_
  refine x_if_ne 13 dX5_trader_8 (by decide) (fun c_8 => ?_) (fun c_8 => ?_)
  · refine x_iload_n dX5_trader_13 rfl ?_
    refine x_tableIn (off := 168) 182 dX5_trader_14 (by decide) (by decide) (by decide) (by decide) ?_
    refine x_aload_n dX5_trader_182 rfl ?_
    refine y_getR fkX5_10 dX5_trader_183 (by decide) rfl rfl ?_
    refine y_getR fkX5_75 dX5_trader_186 (by decide) rfl rfl ?_
    refine x_iload_n dX5_trader_189 rfl ?_
    refine y_ialdn (j := t) dX5_trader_190 (by decide) rfl (ixN (by omega)) (by omega) ?_
    exact y_ret dX5_trader_191 rfl (rfl) ((hR.2.2 t ht).2.2.2.2) (rfl)
  · exact absurd c_8 (by decide)
theorem y_trader_7 {M : Mem} {V : Row} (hR : RM M 1 V) (hV : WF V) {t : Nat} (ht : t < nT V) : Y 8 mX5_trader 0 (lent 3 [.ref 0, .int (nI t), .int (nI 7)]) [] M (some (.int (bc (gv V t)))) M := by
  have hh := y_hasT mk1 hR hV ht
  have h7 := b6 hV ht
  have hw := y_hasWare mk1 hR hV ht
  skip
  refine x_aload_n dX5_trader_0 rfl ?_
  refine y_getR fkX5_10 dX5_trader_1 (by decide) rfl rfl ?_
  refine x_iload_n dX5_trader_4 rfl ?_
  refine y_callV (as := [_]) okX2_has lkX5_72 dX5_trader_5 rfl (by decide) rfl ((hh.more (d' := 7) (by omega))) (by omega) rfl (by simp [Value.category]) (Nat.le_of_ble_eq_true rfl) rfl rfl (cat8 rfl) ?_
  refine x_if_ne 13 dX5_trader_8 (by decide) (fun c_8 => ?_) (fun c_8 => ?_)
  · refine x_iload_n dX5_trader_13 rfl ?_
    refine x_tableIn (off := 178) 192 dX5_trader_14 (by decide) (by decide) (by decide) (by decide) ?_
    refine x_aload_n dX5_trader_192 rfl ?_
    refine y_getR fkX5_10 dX5_trader_193 (by decide) rfl rfl ?_
    refine x_iload_n dX5_trader_196 rfl ?_
    refine y_callV (as := [_]) okX2_giversOf lkX5_168 dX5_trader_197 rfl (by decide) rfl (((y_giversOf mk1 hR hV ht).more (d' := 7) (by omega))) (by omega) rfl (by simp [Value.category]) (Nat.le_of_ble_eq_true rfl) rfl rfl (cat8 rfl) ?_
    refine y_callS (as := [_]) okJ6_bitCount_0f7a4 lkX5_171 dX5_trader_200 rfl (((y_bitCount).more (d' := 7) (by omega))) (by omega) rfl (by simp [Value.category]) (Nat.le_of_ble_eq_true rfl) (cat8 rfl) ?_
    exact y_ret dX5_trader_203 rfl (rfl) (rfl) (rfl)
  · exact absurd c_8 (by decide)
theorem y_trader_8 {M : Mem} {V : Row} (hR : RM M 1 V) (hV : WF V) {t : Nat} (ht : t < nT V) : Y 8 mX5_trader 0 (lent 3 [.ref 0, .int (nI t), .int (nI 8)]) [] M (some (.int (sumF (fun u => b2i (canV V u t)) (nT V)))) M := by
  have hh := y_hasT mk1 hR hV ht
  have h7 := b6 hV ht
  have hw := y_hasWare mk1 hR hV ht
  skip
  refine x_aload_n dX5_trader_0 rfl ?_
  refine y_getR fkX5_10 dX5_trader_1 (by decide) rfl rfl ?_
  refine x_iload_n dX5_trader_4 rfl ?_
  refine y_callV (as := [_]) okX2_has lkX5_72 dX5_trader_5 rfl (by decide) rfl ((hh.more (d' := 7) (by omega))) (by omega) rfl (by simp [Value.category]) (Nat.le_of_ble_eq_true rfl) rfl rfl (cat8 rfl) ?_
  refine x_if_ne 13 dX5_trader_8 (by decide) (fun c_8 => ?_) (fun c_8 => ?_)
  · refine x_iload_n dX5_trader_13 rfl ?_
    refine x_tableIn (off := 190) 204 dX5_trader_14 (by decide) (by decide) (by decide) (by decide) ?_
    refine x_aload_n dX5_trader_204 rfl ?_
    refine y_getR fkX5_10 dX5_trader_205 (by decide) rfl rfl ?_
    refine x_iload_n dX5_trader_208 rfl ?_
    refine y_callV (as := [_]) okX2_numberOfTakers lkX5_176 dX5_trader_209 rfl (by decide) rfl (((y_nTakers mk1 hR hV ht).more (d' := 7) (by omega))) (by omega) rfl (by simp [Value.category]) (Nat.le_of_ble_eq_true rfl) rfl rfl (cat8 rfl) ?_
    exact y_ret dX5_trader_212 rfl (rfl) (rfl) (rfl)
  · exact absurd c_8 (by decide)
theorem y_trader_9 {M : Mem} {V : Row} (hR : RM M 1 V) (hV : WF V) {t : Nat} (ht : t < nT V) : ∃ M' : Mem, Y 19 mX5_trader 0 (lent 3 [.ref 0, .int (nI t), .int (nI 9)]) [] M (some (.int (gI (-4) (cirG V t)))) M' ∧ ∀ c, c ≠ 80 → c ≠ 81 → c ≠ 82 → c ≠ 83 → M' c = M c := by
  have hh := y_hasT mk1 hR hV ht
  obtain ⟨M1, s1, p1⟩ := y_bestGiver hR hV ht
  refine ⟨M1, ?_, p1⟩
  skip
  refine x_aload_n dX5_trader_0 rfl ?_
  refine y_getR fkX5_10 dX5_trader_1 (by decide) rfl rfl ?_
  refine x_iload_n dX5_trader_4 rfl ?_
  refine y_callV (as := [_]) okX2_has lkX5_72 dX5_trader_5 rfl (by decide) rfl ((hh.more (d' := 18) (by omega))) (by omega) rfl (by simp [Value.category]) (Nat.le_of_ble_eq_true rfl) rfl rfl (cat8 rfl) ?_
  refine x_if_ne 13 dX5_trader_8 (by decide) (fun c_8 => ?_) (fun c_8 => ?_)
  · refine x_iload_n dX5_trader_13 rfl ?_
    refine x_tableIn (off := 199) 213 dX5_trader_14 (by decide) (by decide) (by decide) (by decide) ?_
    refine x_aload_n dX5_trader_213 rfl ?_
    refine x_iload_n dX5_trader_214 rfl ?_
    refine y_callV (as := [_]) okX5_bestGiver lkX5_179 dX5_trader_215 rfl (by decide) rfl (s1) (by omega) rfl (by simp [Value.category]) (Nat.le_of_ble_eq_true rfl) rfl rfl (cat8 rfl) ?_
    exact y_ret dX5_trader_218 rfl (rfl) (rfl) (rfl)
  · exact absurd c_8 (by decide)
theorem y_trader_d {M : Mem} {V : Row} (hR : RM M 1 V) (hV : WF V) {t : Nat} (ht : t < nT V) {x : Int32} (hx : x.toInt < 0 ∨ 9 < x.toInt) : Y 8 mX5_trader 0 (lent 3 [.ref 0, .int (nI t), .int x]) [] M (some (.int (-1))) M := by
  have hh := y_hasT mk1 hR hV ht
  skip
  refine x_aload_n dX5_trader_0 rfl ?_
  refine y_getR fkX5_10 dX5_trader_1 (by decide) rfl rfl ?_
  refine x_iload_n dX5_trader_4 rfl ?_
  refine y_callV (as := [_]) okX2_has lkX5_72 dX5_trader_5 rfl (by decide) rfl ((hh.more (d' := 7) (by omega))) (by omega) rfl (by simp [Value.category]) (Nat.le_of_ble_eq_true rfl) rfl rfl (cat8 rfl) ?_
  refine x_if_ne 13 dX5_trader_8 (by decide) (fun c_8 => ?_) (fun c_8 => ?_)
  · refine x_iload_n dX5_trader_13 rfl ?_
    refine x_tableOut 219 dX5_trader_14 (hx) (by decide) ?_
    refine x_iconstv (v := -1) dX5_trader_219 (by decide) ?_
    exact y_ret dX5_trader_220 rfl (rfl) (rfl) (rfl)
  · exact absurd c_8 (by decide)
theorem y_trader_n {M : Mem} {V : Row} (hR : RM M 1 V) (hV : WF V) {t x : Int32} (hx : hasB V t = false) : Y 8 mX5_trader 0 (lent 3 [.ref 0, .int t, .int x]) [] M (some (.int (-1))) M := by
  have hh := y_has mk1 hR hV (t := t)
  rw [hx] at hh
  skip
  refine x_aload_n dX5_trader_0 rfl ?_
  refine y_getR fkX5_10 dX5_trader_1 (by decide) rfl rfl ?_
  refine x_iload_n dX5_trader_4 rfl ?_
  refine y_callV (as := [_]) okX2_has lkX5_72 dX5_trader_5 rfl (by decide) rfl ((hh.more (d' := 7) (by omega))) (by omega) rfl (by simp [Value.category]) (Nat.le_of_ble_eq_true rfl) rfl rfl (cat8 rfl) ?_
  refine x_if_ne 13 dX5_trader_8 (by decide) (fun c_8 => ?_) (fun c_8 => ?_)
  · exact absurd c_8 (by decide)
  · refine x_iconstv (v := -1) dX5_trader_11 (by decide) ?_
    exact y_ret dX5_trader_12 rfl (rfl) (rfl) (rfl)
theorem y_most_0 {M : Mem} {V : Row} (hR : RM M 1 V) (hV : WF V) : ∃ M' : Mem, Y 18 mX5_most 0 (lent 2 [.ref 0, .int (nI 0)]) [] M (some (.int (mstV V (cirN V)))) M' ∧ ∀ c, (c < 75 ∨ 83 < c) → M' c = M c := by
  obtain ⟨hc1, hc2, hc3⟩ := cir_ok hV
  obtain ⟨M1, s1, p1⟩ := y_mostTraders mk1 hR hV (by decide) (L := cirN V) hc3
  have e8 : M 1 8 = nI (cirN V) := hR.1.2.1.trans hc1
  refine ⟨M1, ?_, fun c hc => p1 c (by omega) (by omega) (by omega) (by omega) (by omega)⟩
  skip
  refine x_iload_n dX5_most_0 rfl ?_
  refine x_lookup (off := 27) 28 dX5_most_1 (by decide) (by decide) (by decide) ?_
  refine x_aload_n dX5_most_28 rfl ?_
  refine y_getR fkX5_39 dX5_most_29 (by decide) rfl rfl ?_
  refine x_aload_n dX5_most_32 rfl ?_
  refine y_getR fkX5_10 dX5_most_33 (by decide) rfl rfl ?_
  refine x_aload_n dX5_most_36 rfl ?_
  refine y_getR fkX5_10 dX5_most_37 (by decide) rfl rfl ?_
  refine y_getI fkX5_92 dX5_most_40 (by decide) rfl rfl ?_
  rw [e8]
  refine y_callV (as := [_, _]) okX0_mostTraders lkX5_188 dX5_most_43 rfl (by decide) rfl ((s1.more (d' := 17) (by omega))) (by omega) rfl (by simp [Value.category]) (Nat.le_of_ble_eq_true rfl) rfl rfl (cat8 rfl) ?_
  exact y_ret dX5_most_46 rfl (rfl) (rfl) (rfl)
theorem y_most_1 {M : Mem} {V : Row} (hR : RM M 1 V) (hV : WF V) : ∃ M' : Mem, Y 18 mX5_most 0 (lent 2 [.ref 0, .int (nI 1)]) [] M (some (.int (mstV V (cirN V)))) M' ∧ ∀ c, (c < 75 ∨ 83 < c) → M' c = M c := by
  obtain ⟨M1, s1, p1, p2⟩ := y_findBest mk1 hR hV (by decide)
  refine ⟨M1, ?_, fun c hc => p2 c (by omega) (by omega) (by omega) (by omega)⟩
  skip
  refine x_iload_n dX5_most_0 rfl ?_
  refine x_lookup (off := 46) 47 dX5_most_1 (by decide) (by decide) (by decide) ?_
  refine x_aload_n dX5_most_47 rfl ?_
  refine y_getR fkX5_46 dX5_most_48 (by decide) rfl rfl ?_
  refine x_aload_n dX5_most_51 rfl ?_
  refine y_getR fkX5_10 dX5_most_52 (by decide) rfl rfl ?_
  refine y_callV (as := [_]) okX4_findBest lkX5_192 dX5_most_55 rfl (by decide) rfl (s1) (by omega) rfl (by simp [Value.category]) (Nat.le_of_ble_eq_true rfl) rfl rfl (cat8 rfl) ?_
  exact y_ret dX5_most_58 rfl (rfl) (rfl) (rfl)
theorem y_most_d {M : Mem} {x : Int32} (h0 : ¬ x = 0) (h1 : ¬ x = 1) : Y 18 mX5_most 0 (lent 2 [.ref 0, .int x]) [] M (some (.int (-1))) M := by
  have g0 : ¬ (0 : Int) = x.toInt := fun q => h0 (Int32.toInt_inj.mp (q.symm.trans (by decide)))
  have g1 : ¬ (1 : Int) = x.toInt := fun q => h1 (Int32.toInt_inj.mp (q.symm.trans (by decide)))
  skip
  refine x_iload_n dX5_most_0 rfl ?_
  refine x_lookup (off := 58) 59 dX5_most_1 (by decide) (by simp [Op.lookupswitch.offset, g0, g1]) (by decide) ?_
  refine x_iconstv (v := -1) dX5_most_59 (by decide) ?_
  exact y_ret dX5_most_60 rfl (rfl) (rfl) (rfl)
theorem y_ifCircle1 {M : Mem} {V : Row} (hR : RM M 1 V) (hV : WF V) {x : Int32} (hx : 2 ≤ x ∧ x ≤ 7) : ∃ M' : Mem, Y 9 mX5_ifCircle 0 (lent 2 [.ref 0, .int x]) [] M (some (.int (mstV V x.toNatClampNeg))) M' ∧ ∀ c, (c < 75 ∨ 83 < c) → M' c = M c := by
  obtain ⟨L, hL, rfl⟩ := vp_in_of (in8 hx) (by decide)
  rw [nI_clamp (by omega)]
  obtain ⟨M1, s1, p1⟩ := y_mostTraders mk1 hR hV (by decide) (L := L) (by omega)
  have hc := y_isCircle (M := M) (k := nI L)
  rw [in_bits.mpr hx] at hc
  refine ⟨M1, ?_, fun c hc => p1 c (by omega) (by omega) (by omega) (by omega) (by omega)⟩
  skip
  refine x_iload_n dX5_ifCircle_0 rfl ?_
  refine y_callS (as := [_]) okX5_isCircleLength lkX5_89 dX5_ifCircle_1 rfl ((hc.more (d' := 8) (by omega))) (by omega) rfl (by simp [Value.category]) (Nat.le_of_ble_eq_true rfl) (cat8 rfl) ?_
  refine x_if_eq 22 dX5_ifCircle_4 (by decide) (fun c_4 => ?_) (fun c_4 => ?_)
  · exact absurd c_4 (by decide)
  · refine x_aload_n dX5_ifCircle_7 rfl ?_
    refine y_getR fkX5_39 dX5_ifCircle_8 (by decide) rfl rfl ?_
    refine x_aload_n dX5_ifCircle_11 rfl ?_
    refine y_getR fkX5_10 dX5_ifCircle_12 (by decide) rfl rfl ?_
    refine x_iload_n dX5_ifCircle_15 rfl ?_
    refine y_callV (as := [_, _]) okX0_mostTraders lkX5_188 dX5_ifCircle_16 rfl (by decide) rfl (s1) (by omega) rfl (by simp [Value.category]) (Nat.le_of_ble_eq_true rfl) rfl rfl (cat8 rfl) ?_
    refine x_goto 23 dX5_ifCircle_19 (by decide) ?_
    exact y_ret dX5_ifCircle_23 rfl (rfl) (rfl) (rfl)
theorem y_ifCircle0 {M : Mem} {x : Int32} (hx : ¬ (2 ≤ x ∧ x ≤ 7)) : Y 9 mX5_ifCircle 0 (lent 2 [.ref 0, .int x]) [] M (some (.int (-1))) M := by
  skip
  refine x_iload_n dX5_ifCircle_0 rfl ?_
  refine y_callS (as := [_]) okX5_isCircleLength lkX5_89 dX5_ifCircle_1 rfl ((y_isCircle.more (d' := 8) (by omega))) (by omega) rfl (by simp [Value.category]) (Nat.le_of_ble_eq_true rfl) (cat8 rfl) ?_
  refine x_if_eq 22 dX5_ifCircle_4 (by decide) (fun c_4 => ?_) (fun c_4 => ?_)
  · refine x_iconstv (v := -1) dX5_ifCircle_22 (by decide) ?_
    exact y_ret dX5_ifCircle_23 rfl (rfl) (rfl) (rfl)
  · exact absurd (in_bits.mp (b2i_nz c_4)) hx
