theorem b2i_dT {p : Prop} [Decidable p] (h : p) : b2i (decide p) = 1 := b2i_T (decide_eq_true h)
theorem b2i_dF {p : Prop} [Decidable p] (h : ¬ p) : b2i (decide p) = 0 := b2i_F (decide_eq_false h)
theorem ind_T {p : Prop} [Decidable p] (h : p) : ind p = 1 := if_pos h
theorem ind_F {p : Prop} [Decidable p] (h : ¬ p) : ind p = 0 := if_neg h
theorem ind_or {p q : Prop} [Decidable p] [Decidable q] : (ind p + ind q ≤ 0) ↔ ¬ (p ∨ q) := by
  by_cases h1 : p <;> by_cases h2 : q <;> simp only [ind, h1, h2, if_true, if_false] <;> decide
theorem can_S {V : Row} {t i : Nat} (h : t ≠ i) : canV V t i = (!decide (V 9 = nI t ∨ V 9 = nI i) && decide (0 < dli V t ∧ 0 < dli V i) && decide (wb V t i = 1)) := by
  unfold canV
  by_cases h1 : V 9 = nI t <;> by_cases h2 : V 9 = nI i <;> by_cases h3 : 0 < dli V t <;> by_cases h4 : 0 < dli V i <;> simp [h, h1, h2, h3, h4]
theorem can_S2 {V : Row} {t i : Nat} (h : t ≠ i) : canV V i t = (!decide (V 9 = nI t ∨ V 9 = nI i) && decide (0 < dli V t ∧ 0 < dli V i) && decide (wb V i t = 1)) := by
  unfold canV
  by_cases h1 : V 9 = nI t <;> by_cases h2 : V 9 = nI i <;> by_cases h3 : 0 < dli V t <;> by_cases h4 : 0 < dli V i <;> simp [Ne.symm h, h1, h2, h3, h4]
theorem rsn_S {V : Row} {t i : Nat} : rsn V t i = (if decide (V 9 = nI t ∨ V 9 = nI i) = true then 1 else if decide (0 < dli V t ∧ 0 < dli V i) = false then 2 else if decide (wb V t i = 1) = false then 3 else if decide (wb V i t = 1) = false then 4 else 0) := by
  unfold rsn
  by_cases h1 : V 9 = nI t <;> by_cases h2 : V 9 = nI i <;> by_cases h3 : 0 < dli V t <;> by_cases h4 : 0 < dli V i <;> by_cases h5 : wb V t i = 1 <;> by_cases h6 : wb V i t = 1 <;> simp [h1, h2, h3, h4, h5, h6]
abbrev itL (t n i : Nat) (x3 x4 x5 : Int32) (l8 l9 l10 l11 : Option Value) : List (Option Value) := [some (.ref 0), some (.int (nI t)), some (.int (nI n)), some (.int x3), some (.int x4), some (.int x5), some (.int 1), some (.int (nI i)), l8, l9, l10, l11]
section IT
variable {V : Row} {K : Nat} {h : Nat → Row} {M : Mem} {Q : Mem → Prop} {t i n : Nat} {x3 x4 x5 x8 x9 x10 x11 : Int32}
theorem it_drop  {m0 m1 m2 m3 : Option Value} {pc : Nat} {st : List Value} {M : Mem} {r : Option Value} {Q : Mem → Prop} (hh : YQ none 21 mL_isTrader pc [some (.ref 0), some (.int (nI t)), some (.int (nI n)), some (.int x3), some (.int x4), some (.int x5), some (.int 1), some (.int (nI i)), none, none, none, none] st M r Q) : YQ none 21 mL_isTrader pc [some (.ref 0), some (.int (nI t)), some (.int (nI n)), some (.int x3), some (.int x4), some (.int x5), some (.int 1), some (.int (nI i)), m0, m1, m2, m3] st M r Q := YQ.lsw (fun j v hj => by
  match j, hj with
  | 0, hj => exact hj
  | 1, hj => exact hj
  | 2, hj => exact hj
  | 3, hj => exact hj
  | 4, hj => exact hj
  | 5, hj => exact hj
  | 6, hj => exact hj
  | 7, hj => exact hj
  | 8, hj => cases hj
  | 9, hj => cases hj
  | 10, hj => cases hj
  | 11, hj => cases hj
  | j + 12, hj => cases hj) hh
theorem it_A (hS : St V K h M) (ht : t < nT V) (hi : i < nT V) (hk : ∀ (M : Mem) (x : Int32), St V K h M → x = b2i (decide (V 9 = nI t ∨ V 9 = nI i)) → YQ none 21 mL_isTrader 134 (itL t n i x3 x4 x5 (some (.int x)) none none none) [] M (some (.int 1)) Q) : YQ none 21 mL_isTrader 110 (itL t n i x3 x4 x5 none none none none) [] M (some (.int 1)) Q := by
  skip
  refine q_aload_n dL_isTrader_110 rfl ?_
  refine q_iload_n dL_isTrader_111 rfl ?_
  refine q_iconstv (v := 5) dL_isTrader_112 (by decide) ?_
  refine q_callV (as := [_, _]) okX5_trader lkL_24 dL_isTrader_113 rfl (by decide) rfl (q_trader_5 hS ht) (by omega) rfl (by simp [Value.category]) (Nat.le_of_ble_eq_true rfl) rfl rfl (cat8 rfl) (fun M hS => ?_)
  refine q_aload_n dL_isTrader_116 rfl ?_
  refine q_iload dL_isTrader_117 rfl ?_
  refine q_iconstv (v := 5) dL_isTrader_119 (by decide) ?_
  refine q_callV (as := [_, _]) okX5_trader lkL_24 dL_isTrader_120 rfl (by decide) rfl (q_trader_5 hS hi) (by omega) rfl (by simp [Value.category]) (Nat.le_of_ble_eq_true rfl) rfl rfl (cat8 rfl) (fun M hS => ?_)
  refine q_iadd dL_isTrader_123 ?_
  refine q_if_le 131 dL_isTrader_124 (by decide) (fun c_124 => ?_) (fun c_124 => ?_)
  · refine q_iconstv (v := 0) dL_isTrader_131 (by decide) ?_
    refine q_istore dL_isTrader_132 (by decide) rfl ?_
    exact hk _ _ hS (b2i_dF (ind_or.mp c_124)).symm
  · refine q_iconstv (v := 1) dL_isTrader_127 (by decide) ?_
    refine q_goto 132 dL_isTrader_128 (by decide) ?_
    refine q_istore dL_isTrader_132 (by decide) rfl ?_
    exact hk _ _ hS (b2i_dT (Classical.not_not.mp (fun q => c_124 (ind_or.mpr q)))).symm
theorem it_B (hS : St V K h M) (ht : t < nT V) (hi : i < nT V) (hk : ∀ (M : Mem) (x : Int32), St V K h M → x = b2i (decide (0 < dli V t ∧ 0 < dli V i)) → YQ none 21 mL_isTrader 160 (itL t n i x3 x4 x5 (some (.int x8)) (some (.int x)) none none) [] M (some (.int 1)) Q) : YQ none 21 mL_isTrader 134 (itL t n i x3 x4 x5 (some (.int x8)) none none none) [] M (some (.int 1)) Q := by
  skip
  refine q_aload_n dL_isTrader_134 rfl ?_
  refine q_iload_n dL_isTrader_135 rfl ?_
  refine q_iconstv (v := 4) dL_isTrader_136 (by decide) ?_
  refine q_callV (as := [_, _]) okX5_trader lkL_24 dL_isTrader_137 rfl (by decide) rfl (q_trader_4 hS ht) (by omega) rfl (by simp [Value.category]) (Nat.le_of_ble_eq_true rfl) rfl rfl (cat8 rfl) (fun M hS => ?_)
  refine q_if_le 157 dL_isTrader_140 (by decide) (fun c_140 => ?_) (fun c_140 => ?_)
  · refine q_iconstv (v := 0) dL_isTrader_157 (by decide) ?_
    refine q_istore dL_isTrader_158 (by decide) rfl ?_
    exact hk _ _ hS (b2i_dF (fun q => dl_pos.mp c_140 q.1)).symm
  · refine q_aload_n dL_isTrader_143 rfl ?_
    refine q_iload dL_isTrader_144 rfl ?_
    refine q_iconstv (v := 4) dL_isTrader_146 (by decide) ?_
    refine q_callV (as := [_, _]) okX5_trader lkL_24 dL_isTrader_147 rfl (by decide) rfl (q_trader_4 hS hi) (by omega) rfl (by simp [Value.category]) (Nat.le_of_ble_eq_true rfl) rfl rfl (cat8 rfl) (fun M hS => ?_)
    refine q_if_le 157 dL_isTrader_150 (by decide) (fun c_150 => ?_) (fun c_150 => ?_)
    · refine q_iconstv (v := 0) dL_isTrader_157 (by decide) ?_
      refine q_istore dL_isTrader_158 (by decide) rfl ?_
      exact hk _ _ hS (b2i_dF (fun q => dl_pos.mp c_150 q.2)).symm
    · refine q_iconstv (v := 1) dL_isTrader_153 (by decide) ?_
      refine q_goto 158 dL_isTrader_154 (by decide) ?_
      refine q_istore dL_isTrader_158 (by decide) rfl ?_
      exact hk _ _ hS (b2i_dT ⟨Classical.not_not.mp (fun q => c_140 (dl_pos.mpr q)), Classical.not_not.mp (fun q => c_150 (dl_pos.mpr q))⟩).symm
theorem it_C (hS : St V K h M) (ht : t < nT V) (hi : i < nT V) (hk : ∀ (M : Mem) (x : Int32), St V K h M → x = b2i (decide (wb V t i = 1)) → YQ none 21 mL_isTrader 187 (itL t n i x3 x4 x5 (some (.int x8)) (some (.int x9)) (some (.int x)) none) [] M (some (.int 1)) Q) : YQ none 21 mL_isTrader 160 (itL t n i x3 x4 x5 (some (.int x8)) (some (.int x9)) none none) [] M (some (.int 1)) Q := by
  skip
  refine q_aload_n dL_isTrader_160 rfl ?_
  refine q_iload_n dL_isTrader_161 rfl ?_
  refine q_iconstv (v := 1) dL_isTrader_162 (by decide) ?_
  refine q_callV (as := [_, _]) okX5_trader lkL_24 dL_isTrader_163 rfl (by decide) rfl (q_trader_1 hS ht) (by omega) rfl (by simp [Value.category]) (Nat.le_of_ble_eq_true rfl) rfl rfl (cat8 rfl) (fun M hS => ?_)
  refine q_aload_n dL_isTrader_166 rfl ?_
  refine q_iload dL_isTrader_167 rfl ?_
  refine q_iconstv (v := 2) dL_isTrader_169 (by decide) ?_
  refine q_callV (as := [_, _]) okX5_trader lkL_24 dL_isTrader_170 rfl (by decide) rfl (q_trader_2 hS hi) (by omega) rfl (by simp [Value.category]) (Nat.le_of_ble_eq_true rfl) rfl rfl (cat8 rfl) (fun M hS => ?_)
  refine q_ishr dL_isTrader_173 ?_
  refine q_iconstv (v := 1) dL_isTrader_174 (by decide) ?_
  refine q_iand dL_isTrader_175 ?_
  refine q_iconstv (v := 1) dL_isTrader_176 (by decide) ?_
  refine q_icmp_ne 184 dL_isTrader_177 (by decide) (fun c_177 => ?_) (fun c_177 => ?_)
  · refine q_iconstv (v := 0) dL_isTrader_184 (by decide) ?_
    refine q_istore dL_isTrader_185 (by decide) rfl ?_
    exact hk _ _ hS (b2i_dF (p := wb V t i = 1) c_177).symm
  · refine q_iconstv (v := 1) dL_isTrader_180 (by decide) ?_
    refine q_goto 185 dL_isTrader_181 (by decide) ?_
    refine q_istore dL_isTrader_185 (by decide) rfl ?_
    exact hk _ _ hS (b2i_dT (p := wb V t i = 1) c_177).symm
theorem it_D (hS : St V K h M) (ht : t < nT V) (hi : i < nT V) (hk : ∀ (M : Mem) (x : Int32), St V K h M → x = b2i (decide (wb V i t = 1)) → YQ none 21 mL_isTrader 214 (itL t n i x3 x4 x5 (some (.int x8)) (some (.int x9)) (some (.int x10)) (some (.int x))) [] M (some (.int 1)) Q) : YQ none 21 mL_isTrader 187 (itL t n i x3 x4 x5 (some (.int x8)) (some (.int x9)) (some (.int x10)) none) [] M (some (.int 1)) Q := by
  skip
  refine q_aload_n dL_isTrader_187 rfl ?_
  refine q_iload dL_isTrader_188 rfl ?_
  refine q_iconstv (v := 1) dL_isTrader_190 (by decide) ?_
  refine q_callV (as := [_, _]) okX5_trader lkL_24 dL_isTrader_191 rfl (by decide) rfl (q_trader_1 hS hi) (by omega) rfl (by simp [Value.category]) (Nat.le_of_ble_eq_true rfl) rfl rfl (cat8 rfl) (fun M hS => ?_)
  refine q_aload_n dL_isTrader_194 rfl ?_
  refine q_iload_n dL_isTrader_195 rfl ?_
  refine q_iconstv (v := 2) dL_isTrader_196 (by decide) ?_
  refine q_callV (as := [_, _]) okX5_trader lkL_24 dL_isTrader_197 rfl (by decide) rfl (q_trader_2 hS ht) (by omega) rfl (by simp [Value.category]) (Nat.le_of_ble_eq_true rfl) rfl rfl (cat8 rfl) (fun M hS => ?_)
  refine q_ishr dL_isTrader_200 ?_
  refine q_iconstv (v := 1) dL_isTrader_201 (by decide) ?_
  refine q_iand dL_isTrader_202 ?_
  refine q_iconstv (v := 1) dL_isTrader_203 (by decide) ?_
  refine q_icmp_ne 211 dL_isTrader_204 (by decide) (fun c_204 => ?_) (fun c_204 => ?_)
  · refine q_iconstv (v := 0) dL_isTrader_211 (by decide) ?_
    refine q_istore dL_isTrader_212 (by decide) rfl ?_
    exact hk _ _ hS (b2i_dF (p := wb V i t = 1) c_204).symm
  · refine q_iconstv (v := 1) dL_isTrader_207 (by decide) ?_
    refine q_goto 212 dL_isTrader_208 (by decide) ?_
    refine q_istore dL_isTrader_212 (by decide) rfl ?_
    exact hk _ _ hS (b2i_dT (p := wb V i t = 1) c_204).symm
theorem it_E {S G W D : Bool} (hS : St V K h M) (hk : ∀ (M : Mem) (x : Int32), St V K h M → x = x4 + b2i (!S && G && W) → YQ none 21 mL_isTrader 239 (itL t n i x3 x x5 (some (.int (b2i S))) (some (.int (b2i G))) (some (.int (b2i W))) (some (.int (b2i D)))) [] M (some (.int 1)) Q) : YQ none 21 mL_isTrader 214 (itL t n i x3 x4 x5 (some (.int (b2i S))) (some (.int (b2i G))) (some (.int (b2i W))) (some (.int (b2i D)))) [] M (some (.int 1)) Q := by
  skip
  refine q_iload dL_isTrader_214 rfl ?_
  refine q_iload dL_isTrader_216 rfl ?_
  refine q_if_ne 235 dL_isTrader_218 (by decide) (fun c_218 => ?_) (fun c_218 => ?_)
  · refine q_iconstv (v := 0) dL_isTrader_235 (by decide) ?_
    refine q_iadd dL_isTrader_236 ?_
    refine q_istore dL_isTrader_237 (by decide) rfl ?_
    exact hk _ _ hS (by obtain rfl := b2i_nz c_218; rfl)
  · refine q_iload dL_isTrader_221 rfl ?_
    refine q_if_eq 235 dL_isTrader_223 (by decide) (fun c_223 => ?_) (fun c_223 => ?_)
    · refine q_iconstv (v := 0) dL_isTrader_235 (by decide) ?_
      refine q_iadd dL_isTrader_236 ?_
      refine q_istore dL_isTrader_237 (by decide) rfl ?_
      exact hk _ _ hS (by obtain rfl := b2i_z.mp c_218; obtain rfl := b2i_z.mp c_223; rfl)
    · refine q_iload dL_isTrader_226 rfl ?_
      refine q_if_eq 235 dL_isTrader_228 (by decide) (fun c_228 => ?_) (fun c_228 => ?_)
      · refine q_iconstv (v := 0) dL_isTrader_235 (by decide) ?_
        refine q_iadd dL_isTrader_236 ?_
        refine q_istore dL_isTrader_237 (by decide) rfl ?_
        exact hk _ _ hS (by obtain rfl := b2i_z.mp c_218; obtain rfl := b2i_nz c_223; obtain rfl := b2i_z.mp c_228; rfl)
      · refine q_iconstv (v := 1) dL_isTrader_231 (by decide) ?_
        refine q_goto 236 dL_isTrader_232 (by decide) ?_
        refine q_iadd dL_isTrader_236 ?_
        refine q_istore dL_isTrader_237 (by decide) rfl ?_
        exact hk _ _ hS (by obtain rfl := b2i_z.mp c_218; obtain rfl := b2i_nz c_223; obtain rfl := b2i_nz c_228; rfl)
theorem it_F {S G W D : Bool} (hS : St V K h M) (hk : ∀ (M : Mem) (x : Int32), St V K h M → x = x5 + b2i (!S && G && D) → YQ none 21 mL_isTrader 264 (itL t n i x3 x4 x (some (.int (b2i S))) (some (.int (b2i G))) (some (.int (b2i W))) (some (.int (b2i D)))) [] M (some (.int 1)) Q) : YQ none 21 mL_isTrader 239 (itL t n i x3 x4 x5 (some (.int (b2i S))) (some (.int (b2i G))) (some (.int (b2i W))) (some (.int (b2i D)))) [] M (some (.int 1)) Q := by
  skip
  refine q_iload dL_isTrader_239 rfl ?_
  refine q_iload dL_isTrader_241 rfl ?_
  refine q_if_ne 260 dL_isTrader_243 (by decide) (fun c_243 => ?_) (fun c_243 => ?_)
  · refine q_iconstv (v := 0) dL_isTrader_260 (by decide) ?_
    refine q_iadd dL_isTrader_261 ?_
    refine q_istore dL_isTrader_262 (by decide) rfl ?_
    exact hk _ _ hS (by obtain rfl := b2i_nz c_243; rfl)
  · refine q_iload dL_isTrader_246 rfl ?_
    refine q_if_eq 260 dL_isTrader_248 (by decide) (fun c_248 => ?_) (fun c_248 => ?_)
    · refine q_iconstv (v := 0) dL_isTrader_260 (by decide) ?_
      refine q_iadd dL_isTrader_261 ?_
      refine q_istore dL_isTrader_262 (by decide) rfl ?_
      exact hk _ _ hS (by obtain rfl := b2i_z.mp c_243; obtain rfl := b2i_z.mp c_248; rfl)
    · refine q_iload dL_isTrader_251 rfl ?_
      refine q_if_eq 260 dL_isTrader_253 (by decide) (fun c_253 => ?_) (fun c_253 => ?_)
      · refine q_iconstv (v := 0) dL_isTrader_260 (by decide) ?_
        refine q_iadd dL_isTrader_261 ?_
        refine q_istore dL_isTrader_262 (by decide) rfl ?_
        exact hk _ _ hS (by obtain rfl := b2i_z.mp c_243; obtain rfl := b2i_nz c_248; obtain rfl := b2i_z.mp c_253; rfl)
      · refine q_iconstv (v := 1) dL_isTrader_256 (by decide) ?_
        refine q_goto 261 dL_isTrader_257 (by decide) ?_
        refine q_iadd dL_isTrader_261 ?_
        refine q_istore dL_isTrader_262 (by decide) rfl ?_
        exact hk _ _ hS (by obtain rfl := b2i_z.mp c_243; obtain rfl := b2i_nz c_248; obtain rfl := b2i_nz c_253; rfl)
theorem it_G {S G W D : Bool} (hS : St V K h M) (ht : t < nT V) (hi : i < nT V) (hne : t ≠ i) (hcan : canV V t i = (!S && G && W)) (hrsn : rsn V t i = (if S = true then 1 else if G = false then 2 else if W = false then 3 else if D = false then 4 else 0)) (hk : ∀ (M : Mem), St V K h M → YQ none 21 mL_isTrader 348 (itL t n i x3 x4 x5 (some (.int (b2i S))) (some (.int (b2i G))) (some (.int (b2i W))) (some (.int (b2i D)))) [] M (some (.int 1)) Q) : YQ none 21 mL_isTrader 264 (itL t n i x3 x4 x5 (some (.int (b2i S))) (some (.int (b2i G))) (some (.int (b2i W))) (some (.int (b2i D)))) [] M (some (.int 1)) Q := by
  skip
  refine q_aload_n dL_isTrader_264 rfl ?_
  refine q_iload_n dL_isTrader_265 rfl ?_
  refine q_iload dL_isTrader_266 rfl ?_
  refine q_callV (as := [_, _]) okX5_can lkL_65 dL_isTrader_268 rfl (by decide) rfl (q_can1 hS ht hi hne) (by omega) rfl (by simp [Value.category]) (Nat.le_of_ble_eq_true rfl) rfl rfl (cat8 rfl) (fun M hS => ?_)
  refine q_iload dL_isTrader_271 rfl ?_
  refine q_if_ne 290 dL_isTrader_273 (by decide) (fun c_273 => ?_) (fun c_273 => ?_)
  · refine q_iconstv (v := 0) dL_isTrader_290 (by decide) ?_
    refine q_icmp_ne_f 345 dL_isTrader_291 (by decide) (by obtain rfl := b2i_nz c_273; exact (congrArg b2i hcan).trans rfl) ?_
    refine q_aload_n dL_isTrader_294 rfl ?_
    refine q_iload_n dL_isTrader_295 rfl ?_
    refine q_iload dL_isTrader_296 rfl ?_
    refine q_callV (as := [_, _]) okX5_whyNot lkL_59 dL_isTrader_298 rfl (by decide) rfl (q_whyNot1 hS ht hi hne) (by omega) rfl (by simp [Value.category]) (Nat.le_of_ble_eq_true rfl) rfl rfl (cat8 rfl) (fun M hS => ?_)
    refine q_iload dL_isTrader_301 rfl ?_
    refine q_if_eq_f 310 dL_isTrader_303 (by decide) c_273 ?_
    refine q_iconstv (v := 1) dL_isTrader_306 (by decide) ?_
    refine q_goto 338 dL_isTrader_307 (by decide) ?_
    refine q_icmp_ne_f 345 dL_isTrader_338 (by decide) (by obtain rfl := b2i_nz c_273; exact hrsn.trans rfl) ?_
    refine q_iconstv (v := 1) dL_isTrader_341 (by decide) ?_
    refine q_goto 346 dL_isTrader_342 (by decide) ?_
    refine q_istore dL_isTrader_346 (by decide) rfl ?_
    exact hk _ hS
  · refine q_iload dL_isTrader_276 rfl ?_
    refine q_if_eq 290 dL_isTrader_278 (by decide) (fun c_278 => ?_) (fun c_278 => ?_)
    · refine q_iconstv (v := 0) dL_isTrader_290 (by decide) ?_
      refine q_icmp_ne_f 345 dL_isTrader_291 (by decide) (by obtain rfl := b2i_z.mp c_273; obtain rfl := b2i_z.mp c_278; exact (congrArg b2i hcan).trans rfl) ?_
      refine q_aload_n dL_isTrader_294 rfl ?_
      refine q_iload_n dL_isTrader_295 rfl ?_
      refine q_iload dL_isTrader_296 rfl ?_
      refine q_callV (as := [_, _]) okX5_whyNot lkL_59 dL_isTrader_298 rfl (by decide) rfl (q_whyNot1 hS ht hi hne) (by omega) rfl (by simp [Value.category]) (Nat.le_of_ble_eq_true rfl) rfl rfl (cat8 rfl) (fun M hS => ?_)
      refine q_iload dL_isTrader_301 rfl ?_
      refine q_if_eq_t 310 dL_isTrader_303 (by decide) c_273 ?_
      refine q_iload dL_isTrader_310 rfl ?_
      refine q_if_ne_f 319 dL_isTrader_312 (by decide) c_278 ?_
      refine q_iconstv (v := 2) dL_isTrader_315 (by decide) ?_
      refine q_goto 338 dL_isTrader_316 (by decide) ?_
      refine q_icmp_ne_f 345 dL_isTrader_338 (by decide) (by obtain rfl := b2i_z.mp c_273; obtain rfl := b2i_z.mp c_278; exact hrsn.trans rfl) ?_
      refine q_iconstv (v := 1) dL_isTrader_341 (by decide) ?_
      refine q_goto 346 dL_isTrader_342 (by decide) ?_
      refine q_istore dL_isTrader_346 (by decide) rfl ?_
      exact hk _ hS
    · refine q_iload dL_isTrader_281 rfl ?_
      refine q_if_eq 290 dL_isTrader_283 (by decide) (fun c_283 => ?_) (fun c_283 => ?_)
      · refine q_iconstv (v := 0) dL_isTrader_290 (by decide) ?_
        refine q_icmp_ne_f 345 dL_isTrader_291 (by decide) (by obtain rfl := b2i_z.mp c_273; obtain rfl := b2i_nz c_278; obtain rfl := b2i_z.mp c_283; exact (congrArg b2i hcan).trans rfl) ?_
        refine q_aload_n dL_isTrader_294 rfl ?_
        refine q_iload_n dL_isTrader_295 rfl ?_
        refine q_iload dL_isTrader_296 rfl ?_
        refine q_callV (as := [_, _]) okX5_whyNot lkL_59 dL_isTrader_298 rfl (by decide) rfl (q_whyNot1 hS ht hi hne) (by omega) rfl (by simp [Value.category]) (Nat.le_of_ble_eq_true rfl) rfl rfl (cat8 rfl) (fun M hS => ?_)
        refine q_iload dL_isTrader_301 rfl ?_
        refine q_if_eq_t 310 dL_isTrader_303 (by decide) c_273 ?_
        refine q_iload dL_isTrader_310 rfl ?_
        refine q_if_ne_t 319 dL_isTrader_312 (by decide) c_278 ?_
        refine q_iload dL_isTrader_319 rfl ?_
        refine q_if_ne_f 328 dL_isTrader_321 (by decide) c_283 ?_
        refine q_iconstv (v := 3) dL_isTrader_324 (by decide) ?_
        refine q_goto 338 dL_isTrader_325 (by decide) ?_
        refine q_icmp_ne_f 345 dL_isTrader_338 (by decide) (by obtain rfl := b2i_z.mp c_273; obtain rfl := b2i_nz c_278; obtain rfl := b2i_z.mp c_283; exact hrsn.trans rfl) ?_
        refine q_iconstv (v := 1) dL_isTrader_341 (by decide) ?_
        refine q_goto 346 dL_isTrader_342 (by decide) ?_
        refine q_istore dL_isTrader_346 (by decide) rfl ?_
        exact hk _ hS
      · refine q_iconstv (v := 1) dL_isTrader_286 (by decide) ?_
        refine q_goto 291 dL_isTrader_287 (by decide) ?_
        refine q_icmp_ne_f 345 dL_isTrader_291 (by decide) (by obtain rfl := b2i_z.mp c_273; obtain rfl := b2i_nz c_278; obtain rfl := b2i_nz c_283; exact (congrArg b2i hcan).trans rfl) ?_
        refine q_aload_n dL_isTrader_294 rfl ?_
        refine q_iload_n dL_isTrader_295 rfl ?_
        refine q_iload dL_isTrader_296 rfl ?_
        refine q_callV (as := [_, _]) okX5_whyNot lkL_59 dL_isTrader_298 rfl (by decide) rfl (q_whyNot1 hS ht hi hne) (by omega) rfl (by simp [Value.category]) (Nat.le_of_ble_eq_true rfl) rfl rfl (cat8 rfl) (fun M hS => ?_)
        refine q_iload dL_isTrader_301 rfl ?_
        refine q_if_eq_t 310 dL_isTrader_303 (by decide) c_273 ?_
        refine q_iload dL_isTrader_310 rfl ?_
        refine q_if_ne_t 319 dL_isTrader_312 (by decide) c_278 ?_
        refine q_iload dL_isTrader_319 rfl ?_
        refine q_if_ne_t 328 dL_isTrader_321 (by decide) c_283 ?_
        refine q_iload dL_isTrader_328 rfl ?_
        refine q_if_ne 337 dL_isTrader_330 (by decide) (fun c_330 => ?_) (fun c_330 => ?_)
        · refine q_iconstv (v := 0) dL_isTrader_337 (by decide) ?_
          refine q_icmp_ne_f 345 dL_isTrader_338 (by decide) (by obtain rfl := b2i_z.mp c_273; obtain rfl := b2i_nz c_278; obtain rfl := b2i_nz c_283; obtain rfl := b2i_nz c_330; exact hrsn.trans rfl) ?_
          refine q_iconstv (v := 1) dL_isTrader_341 (by decide) ?_
          refine q_goto 346 dL_isTrader_342 (by decide) ?_
          refine q_istore dL_isTrader_346 (by decide) rfl ?_
          exact hk _ hS
        · refine q_iconstv (v := 4) dL_isTrader_333 (by decide) ?_
          refine q_goto 338 dL_isTrader_334 (by decide) ?_
          refine q_icmp_ne_f 345 dL_isTrader_338 (by decide) (by obtain rfl := b2i_z.mp c_273; obtain rfl := b2i_nz c_278; obtain rfl := b2i_nz c_283; obtain rfl := b2i_z.mp c_330; exact hrsn.trans rfl) ?_
          refine q_iconstv (v := 1) dL_isTrader_341 (by decide) ?_
          refine q_goto 346 dL_isTrader_342 (by decide) ?_
          refine q_istore dL_isTrader_346 (by decide) rfl ?_
          exact hk _ hS
theorem it_loop {t : Nat} (ht : t < nT V) : ∀ (k i : Nat) (M : Mem) (x3 x4 x5 : Int32), i + k = nT V → St V K h M → x4 = sumF (fun g => b2i (canV V t g)) i → x5 = sumF (fun u => b2i (canV V u t)) i → YQ none 21 mL_isTrader 93 (itL t (nT V) i x3 x4 x5 none none none none) [] M (some (.int 1)) (St V K h) := by
  intro k
  induction k with
  | zero =>
    intro i M x3 x4 x5 hik hS h4 h5
    have h7 := n_7 hS.W
    have hin : i = nT V := by omega
    subst hin
    refine q_iload dL_isTrader_93 rfl ?_
    refine q_iload_n dL_isTrader_95 rfl ?_
    refine q_icmp_ge_t 354 dL_isTrader_96 (by decide) (nI_le (Nat.le_refl _) (by omega)) ?_
    refine q_iload dL_isTrader_354 rfl ?_
    refine q_if_eq_f 387 dL_isTrader_356 (by decide) (by decide) ?_
    refine q_aload_n dL_isTrader_359 rfl ?_
    refine q_iload_n dL_isTrader_360 rfl ?_
    refine q_bipushv (v := 7) dL_isTrader_361 (by decide) ?_
    refine q_callV (as := [_, _]) okX5_trader lkL_24 dL_isTrader_363 rfl (by decide) rfl (q_trader_7 hS ht) (by omega) rfl (by simp [Value.category]) (Nat.le_of_ble_eq_true rfl) rfl rfl (cat8 rfl) (fun M hS => ?_)
    refine q_iload dL_isTrader_366 rfl ?_
    refine q_icmp_ne_f 387 dL_isTrader_368 (by decide) (h4.symm) ?_
    refine q_aload_n dL_isTrader_371 rfl ?_
    refine q_iload_n dL_isTrader_372 rfl ?_
    refine q_bipushv (v := 8) dL_isTrader_373 (by decide) ?_
    refine q_callV (as := [_, _]) okX5_trader lkL_24 dL_isTrader_375 rfl (by decide) rfl (q_trader_8 hS ht) (by omega) rfl (by simp [Value.category]) (Nat.le_of_ble_eq_true rfl) rfl rfl (cat8 rfl) (fun M hS => ?_)
    refine q_iload dL_isTrader_378 rfl ?_
    refine q_icmp_ne_f 387 dL_isTrader_380 (by decide) (h5.symm) ?_
    refine q_iconstv (v := 1) dL_isTrader_383 (by decide) ?_
    refine q_goto 388 dL_isTrader_384 (by decide) ?_
    exact q_ret dL_isTrader_388 rfl (rfl) (rfl) hS
  | succ k ih =>
    intro i M x3 x4 x5 hik hS h4 h5
    have h7 := n_7 hS.W
    have hi : i < nT V := by omega
    have hgo : ∀ (M : Mem) (x4' x5' : Int32), St V K h M → x4' = x4 + b2i (canV V t i) → x5' = x5 + b2i (canV V i t) → YQ none 21 mL_isTrader 348 (itL t (nT V) i x3 x4' x5' none none none none) [] M (some (.int 1)) (St V K h) := by
      intro M x4' x5' hS e4 e5
      refine q_iincv (v := 1) dL_isTrader_348 rfl (by decide) rfl (by decide) ?_
      rw [nI_1]
      refine q_goto 93 dL_isTrader_351 (by decide) ?_
      exact ih (i + 1) M x3 x4' x5' (by omega) hS (by rw [e4, h4]; rfl) (by rw [e5, h5]; rfl)
    refine q_iload dL_isTrader_93 rfl ?_
    refine q_iload_n dL_isTrader_95 rfl ?_
    refine q_icmp_ge_f 354 dL_isTrader_96 (by decide) (fun q => absurd ((nI_leI (a := nT V) (b := i) (by omega) (by omega)).mp q) (by omega)) ?_
    refine q_iload dL_isTrader_99 rfl ?_
    refine q_if_eq_f 354 dL_isTrader_101 (by decide) (by decide) ?_
    refine q_iload dL_isTrader_104 rfl ?_
    refine q_iload_n dL_isTrader_106 rfl ?_
    refine q_icmp_eq 348 dL_isTrader_107 (by decide) (fun c_107 => ?_) (fun c_107 => ?_)
    · have hti : i = t := (nI_eq (a := i) (b := t) (by omega) (by omega)).mp c_107
      subst hti
      exact hgo M x4 x5 hS (by rw [can_irr]; exact (Int32.add_zero _).symm) (by rw [can_irr]; exact (Int32.add_zero _).symm)
    · have hne : t ≠ i := fun q => c_107 (by rw [q])
      refine it_A hS ht hi (fun M x8 hS e8 => ?_)
      refine it_B hS ht hi (fun M x9 hS e9 => ?_)
      refine it_C hS ht hi (fun M x10 hS e10 => ?_)
      refine it_D hS ht hi (fun M x11 hS e11 => ?_)
      rw [e8, e9, e10, e11]
      refine it_E hS (fun M y4 hS f4 => ?_)
      refine it_F hS (fun M y5 hS f5 => ?_)
      refine it_G hS ht hi hne (can_S hne) rsn_S (fun M hS => ?_)
      exact it_drop (hgo M y4 y5 hS (by rw [f4, can_S hne]) (by rw [f5, can_S2 hne]))
theorem q_isTrader (hS : St V K h M) (ht : t < nT V) : YQ none 21 mL_isTrader 0 (lent 12 [.ref 0, .int (nI t)]) [] M (some (.int 1)) (St V K h) := by
  have h7 := n_7 hS.W
  skip
  refine q_aload_n dL_isTrader_0 rfl ?_
  refine q_iconstv (v := 1) dL_isTrader_1 (by decide) ?_
  refine q_callV (as := [_]) okX5_count lkL_9 dL_isTrader_2 rfl (by decide) rfl (q_count_1 hS) (by omega) rfl (by simp [Value.category]) (Nat.le_of_ble_eq_true rfl) rfl rfl (cat8 rfl) (fun M hS => ?_)
  refine q_istore_n dL_isTrader_5 (by decide) rfl ?_
  refine q_aload_n dL_isTrader_6 rfl ?_
  refine q_aload_n dL_isTrader_7 rfl ?_
  refine q_iload_n dL_isTrader_8 rfl ?_
  refine q_iconstv (v := 2) dL_isTrader_9 (by decide) ?_
  refine q_callV (as := [_, _]) okX5_trader lkL_24 dL_isTrader_10 rfl (by decide) rfl (q_trader_2n hS ht) (by omega) rfl (by simp [Value.category]) (Nat.le_of_ble_eq_true rfl) rfl rfl (cat8 rfl) (fun M hS => ?_)
  refine q_iconstv (v := 0) dL_isTrader_13 (by decide) ?_
  refine q_callV (as := [_, _]) okX5_kind lkL_33 dL_isTrader_14 rfl (by decide) rfl (q_kind_0 hS (kd_lt hS.W ht)) (by omega) rfl (by simp [Value.category]) (Nat.le_of_ble_eq_true rfl) rfl rfl (cat8 rfl) (fun M hS => ?_)
  refine q_aload_n dL_isTrader_17 rfl ?_
  refine q_iload_n dL_isTrader_18 rfl ?_
  refine q_iconstv (v := 3) dL_isTrader_19 (by decide) ?_
  refine q_callV (as := [_, _]) okX5_trader lkL_24 dL_isTrader_20 rfl (by decide) rfl (q_trader_3 hS ht) (by omega) rfl (by simp [Value.category]) (Nat.le_of_ble_eq_true rfl) rfl rfl (cat8 rfl) (fun M hS => ?_)
  refine q_isub dL_isTrader_23 ?_
  refine q_istore_n dL_isTrader_24 (by decide) rfl ?_
  refine q_iconstv (v := 0) dL_isTrader_25 (by decide) ?_
  refine q_istore dL_isTrader_26 (by decide) rfl ?_
  refine q_iconstv (v := 0) dL_isTrader_28 (by decide) ?_
  refine q_istore dL_isTrader_29 (by decide) rfl ?_
  refine q_aload_n dL_isTrader_31 rfl ?_
  refine q_iload_n dL_isTrader_32 rfl ?_
  refine q_iconstv (v := 4) dL_isTrader_33 (by decide) ?_
  refine q_callV (as := [_, _]) okX5_trader lkL_24 dL_isTrader_34 rfl (by decide) rfl (q_trader_4 hS ht) (by omega) rfl (by simp [Value.category]) (Nat.le_of_ble_eq_true rfl) rfl rfl (cat8 rfl) (fun M hS => ?_)
  refine q_iload_n dL_isTrader_37 rfl ?_
  refine q_if_le 45 dL_isTrader_38 (by decide) (fun c_38 => ?_) (fun c_38 => ?_)
  · refine q_iconstv (v := 0) dL_isTrader_45 (by decide) ?_
    refine q_icmp_ne_f 87 dL_isTrader_46 (by decide) (dl_0 (V := V) (j := t) (Int32.not_lt.mpr c_38)) ?_
    refine q_aload_n dL_isTrader_49 rfl ?_
    refine q_iload_n dL_isTrader_50 rfl ?_
    refine q_iconstv (v := 5) dL_isTrader_51 (by decide) ?_
    refine q_callV (as := [_, _]) okX5_trader lkL_24 dL_isTrader_52 rfl (by decide) rfl (q_trader_5 hS ht) (by omega) rfl (by simp [Value.category]) (Nat.le_of_ble_eq_true rfl) rfl rfl (cat8 rfl) (fun M hS => ?_)
    refine q_aload_n dL_isTrader_55 rfl ?_
    refine q_bipushv (v := 13) dL_isTrader_56 (by decide) ?_
    refine q_callV (as := [_]) okX5_count lkL_9 dL_isTrader_58 rfl (by decide) rfl (q_count_13 hS) (by omega) rfl (by simp [Value.category]) (Nat.le_of_ble_eq_true rfl) rfl rfl (cat8 rfl) (fun M hS => ?_)
    refine q_iload_n dL_isTrader_61 rfl ?_
    refine q_icmp_ne 69 dL_isTrader_62 (by decide) (fun c_62 => ?_) (fun c_62 => ?_)
    · refine q_iconstv (v := 0) dL_isTrader_69 (by decide) ?_
      refine q_icmp_ne_f 87 dL_isTrader_70 (by decide) (ind_F c_62) ?_
      refine q_aload_n dL_isTrader_73 rfl ?_
      refine q_iload_n dL_isTrader_74 rfl ?_
      refine q_iload_n dL_isTrader_75 rfl ?_
      refine q_callV (as := [_, _]) okX5_can lkL_65 dL_isTrader_76 rfl (by decide) rfl (q_can0 hS (Nat.le_of_lt ht)) (by omega) rfl (by simp [Value.category]) (Nat.le_of_ble_eq_true rfl) rfl rfl (cat8 rfl) (fun M hS => ?_)
      refine q_iconstv (v := -1) dL_isTrader_79 (by decide) ?_
      refine q_icmp_ne_f 87 dL_isTrader_80 (by decide) rfl ?_
      refine q_iconstv (v := 1) dL_isTrader_83 (by decide) ?_
      refine q_goto 88 dL_isTrader_84 (by decide) ?_
      refine q_istore dL_isTrader_88 (by decide) rfl ?_
      refine q_iconstv (v := 0) dL_isTrader_90 (by decide) ?_
      refine q_istore dL_isTrader_91 (by decide) rfl ?_
      exact it_loop ht (nT V) 0 M _ _ _ (by omega) hS rfl rfl
    · refine q_iconstv (v := 1) dL_isTrader_65 (by decide) ?_
      refine q_goto 70 dL_isTrader_66 (by decide) ?_
      refine q_icmp_ne_f 87 dL_isTrader_70 (by decide) (ind_T c_62) ?_
      refine q_aload_n dL_isTrader_73 rfl ?_
      refine q_iload_n dL_isTrader_74 rfl ?_
      refine q_iload_n dL_isTrader_75 rfl ?_
      refine q_callV (as := [_, _]) okX5_can lkL_65 dL_isTrader_76 rfl (by decide) rfl (q_can0 hS (Nat.le_of_lt ht)) (by omega) rfl (by simp [Value.category]) (Nat.le_of_ble_eq_true rfl) rfl rfl (cat8 rfl) (fun M hS => ?_)
      refine q_iconstv (v := -1) dL_isTrader_79 (by decide) ?_
      refine q_icmp_ne_f 87 dL_isTrader_80 (by decide) rfl ?_
      refine q_iconstv (v := 1) dL_isTrader_83 (by decide) ?_
      refine q_goto 88 dL_isTrader_84 (by decide) ?_
      refine q_istore dL_isTrader_88 (by decide) rfl ?_
      refine q_iconstv (v := 0) dL_isTrader_90 (by decide) ?_
      refine q_istore dL_isTrader_91 (by decide) rfl ?_
      exact it_loop ht (nT V) 0 M _ _ _ (by omega) hS rfl rfl
  · refine q_iload_n dL_isTrader_41 rfl ?_
    refine q_goto 46 dL_isTrader_42 (by decide) ?_
    refine q_icmp_ne_f 87 dL_isTrader_46 (by decide) (dl_1 (V := V) (j := t) (Int32.not_le.mp c_38)) ?_
    refine q_aload_n dL_isTrader_49 rfl ?_
    refine q_iload_n dL_isTrader_50 rfl ?_
    refine q_iconstv (v := 5) dL_isTrader_51 (by decide) ?_
    refine q_callV (as := [_, _]) okX5_trader lkL_24 dL_isTrader_52 rfl (by decide) rfl (q_trader_5 hS ht) (by omega) rfl (by simp [Value.category]) (Nat.le_of_ble_eq_true rfl) rfl rfl (cat8 rfl) (fun M hS => ?_)
    refine q_aload_n dL_isTrader_55 rfl ?_
    refine q_bipushv (v := 13) dL_isTrader_56 (by decide) ?_
    refine q_callV (as := [_]) okX5_count lkL_9 dL_isTrader_58 rfl (by decide) rfl (q_count_13 hS) (by omega) rfl (by simp [Value.category]) (Nat.le_of_ble_eq_true rfl) rfl rfl (cat8 rfl) (fun M hS => ?_)
    refine q_iload_n dL_isTrader_61 rfl ?_
    refine q_icmp_ne 69 dL_isTrader_62 (by decide) (fun c_62 => ?_) (fun c_62 => ?_)
    · refine q_iconstv (v := 0) dL_isTrader_69 (by decide) ?_
      refine q_icmp_ne_f 87 dL_isTrader_70 (by decide) (ind_F c_62) ?_
      refine q_aload_n dL_isTrader_73 rfl ?_
      refine q_iload_n dL_isTrader_74 rfl ?_
      refine q_iload_n dL_isTrader_75 rfl ?_
      refine q_callV (as := [_, _]) okX5_can lkL_65 dL_isTrader_76 rfl (by decide) rfl (q_can0 hS (Nat.le_of_lt ht)) (by omega) rfl (by simp [Value.category]) (Nat.le_of_ble_eq_true rfl) rfl rfl (cat8 rfl) (fun M hS => ?_)
      refine q_iconstv (v := -1) dL_isTrader_79 (by decide) ?_
      refine q_icmp_ne_f 87 dL_isTrader_80 (by decide) rfl ?_
      refine q_iconstv (v := 1) dL_isTrader_83 (by decide) ?_
      refine q_goto 88 dL_isTrader_84 (by decide) ?_
      refine q_istore dL_isTrader_88 (by decide) rfl ?_
      refine q_iconstv (v := 0) dL_isTrader_90 (by decide) ?_
      refine q_istore dL_isTrader_91 (by decide) rfl ?_
      exact it_loop ht (nT V) 0 M _ _ _ (by omega) hS rfl rfl
    · refine q_iconstv (v := 1) dL_isTrader_65 (by decide) ?_
      refine q_goto 70 dL_isTrader_66 (by decide) ?_
      refine q_icmp_ne_f 87 dL_isTrader_70 (by decide) (ind_T c_62) ?_
      refine q_aload_n dL_isTrader_73 rfl ?_
      refine q_iload_n dL_isTrader_74 rfl ?_
      refine q_iload_n dL_isTrader_75 rfl ?_
      refine q_callV (as := [_, _]) okX5_can lkL_65 dL_isTrader_76 rfl (by decide) rfl (q_can0 hS (Nat.le_of_lt ht)) (by omega) rfl (by simp [Value.category]) (Nat.le_of_ble_eq_true rfl) rfl rfl (cat8 rfl) (fun M hS => ?_)
      refine q_iconstv (v := -1) dL_isTrader_79 (by decide) ?_
      refine q_icmp_ne_f 87 dL_isTrader_80 (by decide) rfl ?_
      refine q_iconstv (v := 1) dL_isTrader_83 (by decide) ?_
      refine q_goto 88 dL_isTrader_84 (by decide) ?_
      refine q_istore dL_isTrader_88 (by decide) rfl ?_
      refine q_iconstv (v := 0) dL_isTrader_90 (by decide) ?_
      refine q_istore dL_isTrader_91 (by decide) rfl ?_
      exact it_loop ht (nT V) 0 M _ _ _ (by omega) hS rfl rfl
end IT
