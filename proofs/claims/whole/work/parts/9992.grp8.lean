def lwLs (i : Nat) : List (Option Value) := [some (.ref scrId), some (.ref 0), some (.ref 84), some (.int (nI i)), none, none, none, none]
abbrev XL (L : Nat) (xs : Nat → Int32) (pc : Nat) (ls : List (Option Value)) (st : List Value) (M M9 : Mem) : Prop := X (some (L, xs)) 40 m_law pc ls st (emb M) (some (.int 1)) (emb M9)
theorem lsw_lw {L : Nat} {xs : Nat → Int32} {pc i : Nat} {a b c e : Option Value} {st : List Value} {M M9 : Mem} (h : XL L xs pc (lwLs i) st M M9) : XL L xs pc [some (.ref scrId), some (.ref 0), some (.ref 84), some (.int (nI i)), a, b, c, e] st M M9 := X.lsw (fun j v hj => by
  match j, hj with
  | 0, hj => exact hj
  | 1, hj => exact hj
  | 2, hj => exact hj
  | 3, hj => exact hj
  | 4, hj => cases hj
  | 5, hj => cases hj
  | 6, hj => cases hj
  | 7, hj => cases hj
  | j + 8, hj => cases hj) h
theorem law_0 {L : Nat} {xs : Nat → Int32} {i : Nat} (hi : i + 2 < L) (hL : L ≤ 1536) {M : Mem} {K n : Nat} (hI : Inv2 M K n) (hk : ∀ M1 : Mem, Inv M1 → ∃ M9 : Mem, XL L xs 832 (lwLs i) [] M1 M9) : ∃ M9 : Mem, XL L xs 32 (lwLs i) [.int (nI 0)] M M9 := by
  obtain ⟨a, M1, M2, s1, s2, inv⟩ := ok_come (xs (i + 1)) (xs (i + 2)) M K n hI
  obtain ⟨M9, h9⟩ := hk M2 inv
  refine ⟨M9, ?_⟩
  refine x_tableIn (off := 128) 160 dL_law_32 (by decide) (by decide) (by decide) (by decide) ?_
  refine x_aload_n dL_law_160 rfl ?_
  refine x_aload_n dL_law_161 rfl ?_
  refine x_iload_n dL_law_162 rfl ?_
  refine x_iconstv (v := 1) dL_law_163 (by decide) ?_
  refine x_iadd dL_law_164 ?_
  rw [show nI i + 1 = nI (i + 1) from nI_add i 1]
  refine x_sld dL_law_165 (vp_in_nI (n := i + 1) (N := L) (by omega) (by omega)) ?_
  rw [nI_clamp (show i + 1 < 2 ^ 31 by omega)]
  refine x_aload_n dL_law_166 rfl ?_
  refine x_iload_n dL_law_167 rfl ?_
  refine x_iconstv (v := 2) dL_law_168 (by decide) ?_
  refine x_iadd dL_law_169 ?_
  rw [show nI i + 2 = nI (i + 2) from nI_add i 2]
  refine x_sld dL_law_170 (vp_in_nI (n := i + 2) (N := L) (by omega) (by omega)) ?_
  rw [nI_clamp (show i + 2 < 2 ^ 31 by omega)]
  refine l_callV (as := [_, _]) okX5_come lkL_13 dL_law_171 rfl (by decide) rfl s1 (by omega) rfl (by simp [Value.category]) (Nat.le_of_ble_eq_true rfl) rfl rfl (cat8 rfl) ?_
  refine x_aload_n dL_law_174 rfl ?_
  refine x_aload_n dL_law_175 rfl ?_
  refine x_iload_n dL_law_176 rfl ?_
  refine x_iconstv (v := 1) dL_law_177 (by decide) ?_
  refine x_iadd dL_law_178 ?_
  rw [show nI i + 1 = nI (i + 1) from nI_add i 1]
  refine x_sld dL_law_179 (vp_in_nI (n := i + 1) (N := L) (by omega) (by omega)) ?_
  rw [nI_clamp (show i + 1 < 2 ^ 31 by omega)]
  refine x_aload_n dL_law_180 rfl ?_
  refine x_iload_n dL_law_181 rfl ?_
  refine x_iconstv (v := 2) dL_law_182 (by decide) ?_
  refine x_iadd dL_law_183 ?_
  rw [show nI i + 2 = nI (i + 2) from nI_add i 2]
  refine x_sld dL_law_184 (vp_in_nI (n := i + 2) (N := L) (by omega) (by omega)) ?_
  rw [nI_clamp (show i + 2 < 2 ^ 31 by omega)]
  refine l_callV (as := [_, _]) okX6_come lkL_17 dL_law_185 rfl (by decide) rfl s2 (by omega) rfl (by simp [Value.category]) (Nat.le_of_ble_eq_true rfl) rfl rfl (cat8 rfl) ?_
  refine x_icmp_eq 832 dL_law_188 (by decide) (fun c_188 => ?_) (fun c_188 => ?_)
  · exact h9
  · exact absurd rfl c_188
theorem law_1 {L : Nat} {xs : Nat → Int32} {i : Nat} (hi : i + 2 < L) (hL : L ≤ 1536) {M : Mem} {K n : Nat} (hI : Inv2 M K n) (hk : ∀ M1 : Mem, Inv M1 → ∃ M9 : Mem, XL L xs 832 (lwLs i) [] M1 M9) : ∃ M9 : Mem, XL L xs 32 (lwLs i) [.int (nI 1)] M M9 := by
  obtain ⟨a, M1, M2, s1, s2, inv⟩ := ok_go (xs (i + 1)) M K n hI
  obtain ⟨M9, h9⟩ := hk M2 inv
  refine ⟨M9, ?_⟩
  refine x_tableIn (off := 161) 193 dL_law_32 (by decide) (by decide) (by decide) (by decide) ?_
  refine x_aload_n dL_law_193 rfl ?_
  refine x_aload_n dL_law_194 rfl ?_
  refine x_iload_n dL_law_195 rfl ?_
  refine x_iconstv (v := 1) dL_law_196 (by decide) ?_
  refine x_iadd dL_law_197 ?_
  rw [show nI i + 1 = nI (i + 1) from nI_add i 1]
  refine x_sld dL_law_198 (vp_in_nI (n := i + 1) (N := L) (by omega) (by omega)) ?_
  rw [nI_clamp (show i + 1 < 2 ^ 31 by omega)]
  refine l_callV (as := [_]) okX5_go lkL_18 dL_law_199 rfl (by decide) rfl s1 (by omega) rfl (by simp [Value.category]) (Nat.le_of_ble_eq_true rfl) rfl rfl (cat8 rfl) ?_
  refine x_aload_n dL_law_202 rfl ?_
  refine x_aload_n dL_law_203 rfl ?_
  refine x_iload_n dL_law_204 rfl ?_
  refine x_iconstv (v := 1) dL_law_205 (by decide) ?_
  refine x_iadd dL_law_206 ?_
  rw [show nI i + 1 = nI (i + 1) from nI_add i 1]
  refine x_sld dL_law_207 (vp_in_nI (n := i + 1) (N := L) (by omega) (by omega)) ?_
  rw [nI_clamp (show i + 1 < 2 ^ 31 by omega)]
  refine l_callV (as := [_]) okX6_go lkL_22 dL_law_208 rfl (by decide) rfl s2 (by omega) rfl (by simp [Value.category]) (Nat.le_of_ble_eq_true rfl) rfl rfl (cat8 rfl) ?_
  refine x_icmp_eq 832 dL_law_211 (by decide) (fun c_211 => ?_) (fun c_211 => ?_)
  · exact h9
  · exact absurd rfl c_211
theorem law_2 {L : Nat} {xs : Nat → Int32} {i : Nat} (hi : i + 2 < L) (hL : L ≤ 1536) {M : Mem} {K n : Nat} (hI : Inv2 M K n) (hk : ∀ M1 : Mem, Inv M1 → ∃ M9 : Mem, XL L xs 832 (lwLs i) [] M1 M9) : ∃ M9 : Mem, XL L xs 32 (lwLs i) [.int (nI 2)] M M9 := by
  obtain ⟨a, M1, M2, s1, s2, inv⟩ := ok_want (xs (i + 1)) (xs (i + 2)) M K n hI
  obtain ⟨M9, h9⟩ := hk M2 inv
  refine ⟨M9, ?_⟩
  refine x_tableIn (off := 184) 216 dL_law_32 (by decide) (by decide) (by decide) (by decide) ?_
  refine x_aload_n dL_law_216 rfl ?_
  refine x_aload_n dL_law_217 rfl ?_
  refine x_iload_n dL_law_218 rfl ?_
  refine x_iconstv (v := 1) dL_law_219 (by decide) ?_
  refine x_iadd dL_law_220 ?_
  rw [show nI i + 1 = nI (i + 1) from nI_add i 1]
  refine x_sld dL_law_221 (vp_in_nI (n := i + 1) (N := L) (by omega) (by omega)) ?_
  rw [nI_clamp (show i + 1 < 2 ^ 31 by omega)]
  refine x_aload_n dL_law_222 rfl ?_
  refine x_iload_n dL_law_223 rfl ?_
  refine x_iconstv (v := 2) dL_law_224 (by decide) ?_
  refine x_iadd dL_law_225 ?_
  rw [show nI i + 2 = nI (i + 2) from nI_add i 2]
  refine x_sld dL_law_226 (vp_in_nI (n := i + 2) (N := L) (by omega) (by omega)) ?_
  rw [nI_clamp (show i + 2 < 2 ^ 31 by omega)]
  refine l_callV (as := [_, _]) okX5_want lkL_23 dL_law_227 rfl (by decide) rfl s1 (by omega) rfl (by simp [Value.category]) (Nat.le_of_ble_eq_true rfl) rfl rfl (cat8 rfl) ?_
  refine x_aload_n dL_law_230 rfl ?_
  refine x_aload_n dL_law_231 rfl ?_
  refine x_iload_n dL_law_232 rfl ?_
  refine x_iconstv (v := 1) dL_law_233 (by decide) ?_
  refine x_iadd dL_law_234 ?_
  rw [show nI i + 1 = nI (i + 1) from nI_add i 1]
  refine x_sld dL_law_235 (vp_in_nI (n := i + 1) (N := L) (by omega) (by omega)) ?_
  rw [nI_clamp (show i + 1 < 2 ^ 31 by omega)]
  refine x_aload_n dL_law_236 rfl ?_
  refine x_iload_n dL_law_237 rfl ?_
  refine x_iconstv (v := 2) dL_law_238 (by decide) ?_
  refine x_iadd dL_law_239 ?_
  rw [show nI i + 2 = nI (i + 2) from nI_add i 2]
  refine x_sld dL_law_240 (vp_in_nI (n := i + 2) (N := L) (by omega) (by omega)) ?_
  rw [nI_clamp (show i + 2 < 2 ^ 31 by omega)]
  refine l_callV (as := [_, _]) okX6_want lkL_26 dL_law_241 rfl (by decide) rfl s2 (by omega) rfl (by simp [Value.category]) (Nat.le_of_ble_eq_true rfl) rfl rfl (cat8 rfl) ?_
  refine x_icmp_eq 832 dL_law_244 (by decide) (fun c_244 => ?_) (fun c_244 => ?_)
  · exact h9
  · exact absurd rfl c_244
theorem law_3 {L : Nat} {xs : Nat → Int32} {i : Nat} (hi : i + 2 < L) (hL : L ≤ 1536) {M : Mem} {K n : Nat} (hI : Inv2 M K n) (hk : ∀ M1 : Mem, Inv M1 → ∃ M9 : Mem, XL L xs 832 (lwLs i) [] M1 M9) : ∃ M9 : Mem, XL L xs 32 (lwLs i) [.int (nI 3)] M M9 := by
  obtain ⟨a, M1, M2, s1, s2, inv⟩ := ok_life (xs (i + 1)) (xs (i + 2)) M K n hI
  obtain ⟨M9, h9⟩ := hk M2 inv
  refine ⟨M9, ?_⟩
  refine x_tableIn (off := 217) 249 dL_law_32 (by decide) (by decide) (by decide) (by decide) ?_
  refine x_aload_n dL_law_249 rfl ?_
  refine x_aload_n dL_law_250 rfl ?_
  refine x_iload_n dL_law_251 rfl ?_
  refine x_iconstv (v := 1) dL_law_252 (by decide) ?_
  refine x_iadd dL_law_253 ?_
  rw [show nI i + 1 = nI (i + 1) from nI_add i 1]
  refine x_sld dL_law_254 (vp_in_nI (n := i + 1) (N := L) (by omega) (by omega)) ?_
  rw [nI_clamp (show i + 1 < 2 ^ 31 by omega)]
  refine x_aload_n dL_law_255 rfl ?_
  refine x_iload_n dL_law_256 rfl ?_
  refine x_iconstv (v := 2) dL_law_257 (by decide) ?_
  refine x_iadd dL_law_258 ?_
  rw [show nI i + 2 = nI (i + 2) from nI_add i 2]
  refine x_sld dL_law_259 (vp_in_nI (n := i + 2) (N := L) (by omega) (by omega)) ?_
  rw [nI_clamp (show i + 2 < 2 ^ 31 by omega)]
  refine l_callV (as := [_, _]) okX5_life lkL_27 dL_law_260 rfl (by decide) rfl s1 (by omega) rfl (by simp [Value.category]) (Nat.le_of_ble_eq_true rfl) rfl rfl (cat8 rfl) ?_
  refine x_aload_n dL_law_263 rfl ?_
  refine x_aload_n dL_law_264 rfl ?_
  refine x_iload_n dL_law_265 rfl ?_
  refine x_iconstv (v := 1) dL_law_266 (by decide) ?_
  refine x_iadd dL_law_267 ?_
  rw [show nI i + 1 = nI (i + 1) from nI_add i 1]
  refine x_sld dL_law_268 (vp_in_nI (n := i + 1) (N := L) (by omega) (by omega)) ?_
  rw [nI_clamp (show i + 1 < 2 ^ 31 by omega)]
  refine x_aload_n dL_law_269 rfl ?_
  refine x_iload_n dL_law_270 rfl ?_
  refine x_iconstv (v := 2) dL_law_271 (by decide) ?_
  refine x_iadd dL_law_272 ?_
  rw [show nI i + 2 = nI (i + 2) from nI_add i 2]
  refine x_sld dL_law_273 (vp_in_nI (n := i + 2) (N := L) (by omega) (by omega)) ?_
  rw [nI_clamp (show i + 2 < 2 ^ 31 by omega)]
  refine l_callV (as := [_, _]) okX6_life lkL_30 dL_law_274 rfl (by decide) rfl s2 (by omega) rfl (by simp [Value.category]) (Nat.le_of_ble_eq_true rfl) rfl rfl (cat8 rfl) ?_
  refine x_icmp_eq 832 dL_law_277 (by decide) (fun c_277 => ?_) (fun c_277 => ?_)
  · exact h9
  · exact absurd rfl c_277
theorem law_4 {L : Nat} {xs : Nat → Int32} {i : Nat} (hi : i + 2 < L) (hL : L ≤ 1536) {M : Mem} {K n : Nat} (hI : Inv2 M K n) (hk : ∀ M1 : Mem, Inv M1 → ∃ M9 : Mem, XL L xs 832 (lwLs i) [] M1 M9) : ∃ M9 : Mem, XL L xs 32 (lwLs i) [.int (nI 4)] M M9 := by
  obtain ⟨a, M1, M2, s1, s2, inv⟩ := ok_circle (xs (i + 1)) M K n hI
  obtain ⟨M9, h9⟩ := hk M2 inv
  refine ⟨M9, ?_⟩
  refine x_tableIn (off := 250) 282 dL_law_32 (by decide) (by decide) (by decide) (by decide) ?_
  refine x_aload_n dL_law_282 rfl ?_
  refine x_aload_n dL_law_283 rfl ?_
  refine x_iload_n dL_law_284 rfl ?_
  refine x_iconstv (v := 1) dL_law_285 (by decide) ?_
  refine x_iadd dL_law_286 ?_
  rw [show nI i + 1 = nI (i + 1) from nI_add i 1]
  refine x_sld dL_law_287 (vp_in_nI (n := i + 1) (N := L) (by omega) (by omega)) ?_
  rw [nI_clamp (show i + 1 < 2 ^ 31 by omega)]
  refine l_callV (as := [_]) okX5_circle lkL_31 dL_law_288 rfl (by decide) rfl s1 (by omega) rfl (by simp [Value.category]) (Nat.le_of_ble_eq_true rfl) rfl rfl (cat8 rfl) ?_
  refine x_aload_n dL_law_291 rfl ?_
  refine x_aload_n dL_law_292 rfl ?_
  refine x_iload_n dL_law_293 rfl ?_
  refine x_iconstv (v := 1) dL_law_294 (by decide) ?_
  refine x_iadd dL_law_295 ?_
  rw [show nI i + 1 = nI (i + 1) from nI_add i 1]
  refine x_sld dL_law_296 (vp_in_nI (n := i + 1) (N := L) (by omega) (by omega)) ?_
  rw [nI_clamp (show i + 1 < 2 ^ 31 by omega)]
  refine l_callV (as := [_]) okX6_circle lkL_34 dL_law_297 rfl (by decide) rfl s2 (by omega) rfl (by simp [Value.category]) (Nat.le_of_ble_eq_true rfl) rfl rfl (cat8 rfl) ?_
  refine x_icmp_eq 832 dL_law_300 (by decide) (fun c_300 => ?_) (fun c_300 => ?_)
  · exact h9
  · exact absurd rfl c_300
theorem law_5 {L : Nat} {xs : Nat → Int32} {i : Nat} (hi : i + 2 < L) (hL : L ≤ 1536) {M : Mem} {K n : Nat} (hI : Inv2 M K n) (hk : ∀ M1 : Mem, Inv M1 → ∃ M9 : Mem, XL L xs 832 (lwLs i) [] M1 M9) : ∃ M9 : Mem, XL L xs 32 (lwLs i) [.int (nI 5)] M M9 := by
  obtain ⟨a, M1, M2, s1, s2, inv⟩ := ok_lot (xs (i + 1)) M K n hI
  obtain ⟨M9, h9⟩ := hk M2 inv
  refine ⟨M9, ?_⟩
  refine x_tableIn (off := 273) 305 dL_law_32 (by decide) (by decide) (by decide) (by decide) ?_
  refine x_aload_n dL_law_305 rfl ?_
  refine x_aload_n dL_law_306 rfl ?_
  refine x_iload_n dL_law_307 rfl ?_
  refine x_iconstv (v := 1) dL_law_308 (by decide) ?_
  refine x_iadd dL_law_309 ?_
  rw [show nI i + 1 = nI (i + 1) from nI_add i 1]
  refine x_sld dL_law_310 (vp_in_nI (n := i + 1) (N := L) (by omega) (by omega)) ?_
  rw [nI_clamp (show i + 1 < 2 ^ 31 by omega)]
  refine l_callV (as := [_]) okX5_lot lkL_35 dL_law_311 rfl (by decide) rfl s1 (by omega) rfl (by simp [Value.category]) (Nat.le_of_ble_eq_true rfl) rfl rfl (cat8 rfl) ?_
  refine x_aload_n dL_law_314 rfl ?_
  refine x_aload_n dL_law_315 rfl ?_
  refine x_iload_n dL_law_316 rfl ?_
  refine x_iconstv (v := 1) dL_law_317 (by decide) ?_
  refine x_iadd dL_law_318 ?_
  rw [show nI i + 1 = nI (i + 1) from nI_add i 1]
  refine x_sld dL_law_319 (vp_in_nI (n := i + 1) (N := L) (by omega) (by omega)) ?_
  rw [nI_clamp (show i + 1 < 2 ^ 31 by omega)]
  refine l_callV (as := [_]) okX6_lot lkL_38 dL_law_320 rfl (by decide) rfl s2 (by omega) rfl (by simp [Value.category]) (Nat.le_of_ble_eq_true rfl) rfl rfl (cat8 rfl) ?_
  refine x_icmp_eq 832 dL_law_323 (by decide) (fun c_323 => ?_) (fun c_323 => ?_)
  · exact h9
  · exact absurd rfl c_323
theorem law_6 {L : Nat} {xs : Nat → Int32} {i : Nat} (hi : i + 2 < L) (hL : L ≤ 1536) {M : Mem} {K n : Nat} (hI : Inv2 M K n) (hk : ∀ M1 : Mem, Inv M1 → ∃ M9 : Mem, XL L xs 832 (lwLs i) [] M1 M9) : ∃ M9 : Mem, XL L xs 32 (lwLs i) [.int (nI 6)] M M9 := by
  obtain ⟨a, M1, M2, s1, s2, inv⟩ := ok_barter (xs (i + 1)) (xs (i + 2)) M K n hI
  obtain ⟨M9, h9⟩ := hk M2 inv
  refine ⟨M9, ?_⟩
  refine x_tableIn (off := 296) 328 dL_law_32 (by decide) (by decide) (by decide) (by decide) ?_
  refine x_aload_n dL_law_328 rfl ?_
  refine x_aload_n dL_law_329 rfl ?_
  refine x_iload_n dL_law_330 rfl ?_
  refine x_iconstv (v := 1) dL_law_331 (by decide) ?_
  refine x_iadd dL_law_332 ?_
  rw [show nI i + 1 = nI (i + 1) from nI_add i 1]
  refine x_sld dL_law_333 (vp_in_nI (n := i + 1) (N := L) (by omega) (by omega)) ?_
  rw [nI_clamp (show i + 1 < 2 ^ 31 by omega)]
  refine x_aload_n dL_law_334 rfl ?_
  refine x_iload_n dL_law_335 rfl ?_
  refine x_iconstv (v := 2) dL_law_336 (by decide) ?_
  refine x_iadd dL_law_337 ?_
  rw [show nI i + 2 = nI (i + 2) from nI_add i 2]
  refine x_sld dL_law_338 (vp_in_nI (n := i + 2) (N := L) (by omega) (by omega)) ?_
  rw [nI_clamp (show i + 2 < 2 ^ 31 by omega)]
  refine l_callV (as := [_, _]) okX5_barter lkL_39 dL_law_339 rfl (by decide) rfl s1 (by omega) rfl (by simp [Value.category]) (Nat.le_of_ble_eq_true rfl) rfl rfl (cat8 rfl) ?_
  refine x_aload_n dL_law_342 rfl ?_
  refine x_aload_n dL_law_343 rfl ?_
  refine x_iload_n dL_law_344 rfl ?_
  refine x_iconstv (v := 1) dL_law_345 (by decide) ?_
  refine x_iadd dL_law_346 ?_
  rw [show nI i + 1 = nI (i + 1) from nI_add i 1]
  refine x_sld dL_law_347 (vp_in_nI (n := i + 1) (N := L) (by omega) (by omega)) ?_
  rw [nI_clamp (show i + 1 < 2 ^ 31 by omega)]
  refine x_aload_n dL_law_348 rfl ?_
  refine x_iload_n dL_law_349 rfl ?_
  refine x_iconstv (v := 2) dL_law_350 (by decide) ?_
  refine x_iadd dL_law_351 ?_
  rw [show nI i + 2 = nI (i + 2) from nI_add i 2]
  refine x_sld dL_law_352 (vp_in_nI (n := i + 2) (N := L) (by omega) (by omega)) ?_
  rw [nI_clamp (show i + 2 < 2 ^ 31 by omega)]
  refine l_callV (as := [_, _]) okX6_barter lkL_42 dL_law_353 rfl (by decide) rfl s2 (by omega) rfl (by simp [Value.category]) (Nat.le_of_ble_eq_true rfl) rfl rfl (cat8 rfl) ?_
  refine x_icmp_eq 832 dL_law_356 (by decide) (fun c_356 => ?_) (fun c_356 => ?_)
  · exact h9
  · exact absurd rfl c_356
theorem law_7 {L : Nat} {xs : Nat → Int32} {i : Nat} (hi : i + 2 < L) (hL : L ≤ 1536) {M : Mem} {K n : Nat} (hI : Inv2 M K n) (hk : ∀ M1 : Mem, Inv M1 → ∃ M9 : Mem, XL L xs 832 (lwLs i) [] M1 M9) : ∃ M9 : Mem, XL L xs 32 (lwLs i) [.int (nI 7)] M M9 := by
  obtain ⟨a, M1, M2, s1, s2, inv⟩ := ok_call  M K n hI
  obtain ⟨M9, h9⟩ := hk M2 inv
  refine ⟨M9, ?_⟩
  refine x_tableIn (off := 329) 361 dL_law_32 (by decide) (by decide) (by decide) (by decide) ?_
  refine x_aload_n dL_law_361 rfl ?_
  refine l_callV (as := []) okX5_call lkL_43 dL_law_362 rfl (by decide) rfl s1 (by omega) rfl (by simp [Value.category]) (Nat.le_of_ble_eq_true rfl) rfl rfl (cat8 rfl) ?_
  refine x_aload_n dL_law_365 rfl ?_
  refine l_callV (as := []) okX6_call lkL_47 dL_law_366 rfl (by decide) rfl s2 (by omega) rfl (by simp [Value.category]) (Nat.le_of_ble_eq_true rfl) rfl rfl (cat8 rfl) ?_
  refine x_icmp_eq 832 dL_law_369 (by decide) (fun c_369 => ?_) (fun c_369 => ?_)
  · exact h9
  · exact absurd rfl c_369
theorem law_8 {L : Nat} {xs : Nat → Int32} {i : Nat} (hi : i + 2 < L) (hL : L ≤ 1536) {M : Mem} {K n : Nat} (hI : Inv2 M K n) (hk : ∀ M1 : Mem, Inv M1 → ∃ M9 : Mem, XL L xs 832 (lwLs i) [] M1 M9) : ∃ M9 : Mem, XL L xs 32 (lwLs i) [.int (nI 8)] M M9 := by
  obtain ⟨a, M1, M2, s1, s2, inv⟩ := ok_day  M K n hI
  obtain ⟨M9, h9⟩ := hk M2 inv
  refine ⟨M9, ?_⟩
  refine x_tableIn (off := 342) 374 dL_law_32 (by decide) (by decide) (by decide) (by decide) ?_
  refine x_aload_n dL_law_374 rfl ?_
  refine l_callV (as := []) okX5_day lkL_48 dL_law_375 rfl (by decide) rfl s1 (by omega) rfl (by simp [Value.category]) (Nat.le_of_ble_eq_true rfl) rfl rfl (cat8 rfl) ?_
  refine x_aload_n dL_law_378 rfl ?_
  refine l_callV (as := []) okX6_day lkL_51 dL_law_379 rfl (by decide) rfl s2 (by omega) rfl (by simp [Value.category]) (Nat.le_of_ble_eq_true rfl) rfl rfl (cat8 rfl) ?_
  refine x_icmp_eq 832 dL_law_382 (by decide) (fun c_382 => ?_) (fun c_382 => ?_)
  · exact h9
  · exact absurd rfl c_382
theorem law_9 {L : Nat} {xs : Nat → Int32} {i : Nat} (hi : i + 2 < L) (hL : L ≤ 1536) {M : Mem} {K n : Nat} (hI : Inv2 M K n) (hk : ∀ M1 : Mem, Inv M1 → ∃ M9 : Mem, XL L xs 832 (lwLs i) [] M1 M9) : ∃ M9 : Mem, XL L xs 32 (lwLs i) [.int (nI 9)] M M9 := by
  obtain ⟨a, M1, M2, s1, s2, inv⟩ := ok_append (xs (i + 1)) M K n hI
  obtain ⟨M9, h9⟩ := hk M2 inv
  refine ⟨M9, ?_⟩
  refine x_tableIn (off := 355) 387 dL_law_32 (by decide) (by decide) (by decide) (by decide) ?_
  refine x_aload_n dL_law_387 rfl ?_
  refine x_aload_n dL_law_388 rfl ?_
  refine x_iload_n dL_law_389 rfl ?_
  refine x_iconstv (v := 1) dL_law_390 (by decide) ?_
  refine x_iadd dL_law_391 ?_
  rw [show nI i + 1 = nI (i + 1) from nI_add i 1]
  refine x_sld dL_law_392 (vp_in_nI (n := i + 1) (N := L) (by omega) (by omega)) ?_
  rw [nI_clamp (show i + 1 < 2 ^ 31 by omega)]
  refine l_callV (as := [_]) okX5_append lkL_52 dL_law_393 rfl (by decide) rfl s1 (by omega) rfl (by simp [Value.category]) (Nat.le_of_ble_eq_true rfl) rfl rfl (cat8 rfl) ?_
  refine x_aload_n dL_law_396 rfl ?_
  refine x_aload_n dL_law_397 rfl ?_
  refine x_iload_n dL_law_398 rfl ?_
  refine x_iconstv (v := 1) dL_law_399 (by decide) ?_
  refine x_iadd dL_law_400 ?_
  rw [show nI i + 1 = nI (i + 1) from nI_add i 1]
  refine x_sld dL_law_401 (vp_in_nI (n := i + 1) (N := L) (by omega) (by omega)) ?_
  rw [nI_clamp (show i + 1 < 2 ^ 31 by omega)]
  refine l_callV (as := [_]) okX6_append lkL_55 dL_law_402 rfl (by decide) rfl s2 (by omega) rfl (by simp [Value.category]) (Nat.le_of_ble_eq_true rfl) rfl rfl (cat8 rfl) ?_
  refine x_icmp_eq 832 dL_law_405 (by decide) (fun c_405 => ?_) (fun c_405 => ?_)
  · exact h9
  · exact absurd rfl c_405
theorem law_10 {L : Nat} {xs : Nat → Int32} {i : Nat} (hi : i + 2 < L) (hL : L ≤ 1536) {M : Mem} {K n : Nat} (hI : Inv2 M K n) (hk : ∀ M1 : Mem, Inv M1 → ∃ M9 : Mem, XL L xs 832 (lwLs i) [] M1 M9) : ∃ M9 : Mem, XL L xs 32 (lwLs i) [.int (nI 10)] M M9 := by
  obtain ⟨a, M1, M2, s1, s2, inv⟩ := ok_clear  M K n hI
  obtain ⟨M9, h9⟩ := hk M2 inv
  refine ⟨M9, ?_⟩
  refine x_tableIn (off := 378) 410 dL_law_32 (by decide) (by decide) (by decide) (by decide) ?_
  refine x_aload_n dL_law_410 rfl ?_
  refine l_callV (as := []) okX5_clear lkL_56 dL_law_411 rfl (by decide) rfl s1 (by omega) rfl (by simp [Value.category]) (Nat.le_of_ble_eq_true rfl) rfl rfl (cat8 rfl) ?_
  refine x_aload_n dL_law_414 rfl ?_
  refine l_callV (as := []) okX6_clear lkL_59 dL_law_415 rfl (by decide) rfl s2 (by omega) rfl (by simp [Value.category]) (Nat.le_of_ble_eq_true rfl) rfl rfl (cat8 rfl) ?_
  refine x_icmp_eq 832 dL_law_418 (by decide) (fun c_418 => ?_) (fun c_418 => ?_)
  · exact h9
  · exact absurd rfl c_418
theorem law_11 {L : Nat} {xs : Nat → Int32} {i : Nat} (hi : i + 2 < L) (hL : L ≤ 1536) {M : Mem} {K n : Nat} (hI : Inv2 M K n) (hk : ∀ M1 : Mem, Inv M1 → ∃ M9 : Mem, XL L xs 832 (lwLs i) [] M1 M9) : ∃ M9 : Mem, XL L xs 32 (lwLs i) [.int (nI 11)] M M9 := by
  obtain ⟨a, M1, M2, s1, s2, inv⟩ := ok_fault (xs (i + 1)) M K n hI
  obtain ⟨M9, h9⟩ := hk M2 inv
  refine ⟨M9, ?_⟩
  refine x_tableIn (off := 391) 423 dL_law_32 (by decide) (by decide) (by decide) (by decide) ?_
  refine x_aload_n dL_law_423 rfl ?_
  refine x_aload_n dL_law_424 rfl ?_
  refine x_iload_n dL_law_425 rfl ?_
  refine x_iconstv (v := 1) dL_law_426 (by decide) ?_
  refine x_iadd dL_law_427 ?_
  rw [show nI i + 1 = nI (i + 1) from nI_add i 1]
  refine x_sld dL_law_428 (vp_in_nI (n := i + 1) (N := L) (by omega) (by omega)) ?_
  rw [nI_clamp (show i + 1 < 2 ^ 31 by omega)]
  refine l_callV (as := [_]) okX5_fault lkL_60 dL_law_429 rfl (by decide) rfl s1 (by omega) rfl (by simp [Value.category]) (Nat.le_of_ble_eq_true rfl) rfl rfl (cat8 rfl) ?_
  refine x_aload_n dL_law_432 rfl ?_
  refine x_aload_n dL_law_433 rfl ?_
  refine x_iload_n dL_law_434 rfl ?_
  refine x_iconstv (v := 1) dL_law_435 (by decide) ?_
  refine x_iadd dL_law_436 ?_
  rw [show nI i + 1 = nI (i + 1) from nI_add i 1]
  refine x_sld dL_law_437 (vp_in_nI (n := i + 1) (N := L) (by omega) (by omega)) ?_
  rw [nI_clamp (show i + 1 < 2 ^ 31 by omega)]
  refine l_callV (as := [_]) okX6_fault lkL_63 dL_law_438 rfl (by decide) rfl s2 (by omega) rfl (by simp [Value.category]) (Nat.le_of_ble_eq_true rfl) rfl rfl (cat8 rfl) ?_
  refine x_icmp_eq 832 dL_law_441 (by decide) (fun c_441 => ?_) (fun c_441 => ?_)
  · exact h9
  · exact absurd rfl c_441
theorem law_12 {L : Nat} {xs : Nat → Int32} {i : Nat} (hi : i + 2 < L) (hL : L ≤ 1536) {M : Mem} {K n : Nat} (hI : Inv2 M K n) (hk : ∀ M1 : Mem, Inv M1 → ∃ M9 : Mem, XL L xs 832 (lwLs i) [] M1 M9) : ∃ M9 : Mem, XL L xs 32 (lwLs i) [.int (nI 12)] M M9 := by
  obtain ⟨a, M1, M2, s1, s2, inv⟩ := ok_traders  M K n hI
  obtain ⟨M9, h9⟩ := hk M2 inv
  refine ⟨M9, ?_⟩
  refine x_tableIn (off := 414) 446 dL_law_32 (by decide) (by decide) (by decide) (by decide) ?_
  refine x_aload_n dL_law_446 rfl ?_
  refine l_callV (as := []) okX5_traders lkL_64 dL_law_447 rfl (by decide) rfl s1 (by omega) rfl (by simp [Value.category]) (Nat.le_of_ble_eq_true rfl) rfl rfl (cat8 rfl) ?_
  refine x_aload_n dL_law_450 rfl ?_
  refine l_callV (as := []) okX6_traders lkL_67 dL_law_451 rfl (by decide) rfl s2 (by omega) rfl (by simp [Value.category]) (Nat.le_of_ble_eq_true rfl) rfl rfl (cat8 rfl) ?_
  refine x_icmp_eq 832 dL_law_454 (by decide) (fun c_454 => ?_) (fun c_454 => ?_)
  · exact h9
  · exact absurd rfl c_454
theorem law_13 {L : Nat} {xs : Nat → Int32} {i : Nat} (hi : i + 2 < L) (hL : L ≤ 1536) {M : Mem} {K n : Nat} (hI : Inv2 M K n) (hk : ∀ M1 : Mem, Inv M1 → ∃ M9 : Mem, XL L xs 832 (lwLs i) [] M1 M9) : ∃ M9 : Mem, XL L xs 32 (lwLs i) [.int (nI 13)] M M9 := by
  obtain ⟨a, M1, M2, s1, s2, inv⟩ := ok_days  M K n hI
  obtain ⟨M9, h9⟩ := hk M2 inv
  refine ⟨M9, ?_⟩
  refine x_tableIn (off := 427) 459 dL_law_32 (by decide) (by decide) (by decide) (by decide) ?_
  refine x_aload_n dL_law_459 rfl ?_
  refine l_callV (as := []) okX5_days lkL_68 dL_law_460 rfl (by decide) rfl s1 (by omega) rfl (by simp [Value.category]) (Nat.le_of_ble_eq_true rfl) rfl rfl (cat8 rfl) ?_
  refine x_aload_n dL_law_463 rfl ?_
  refine l_callV (as := []) okX6_days lkL_71 dL_law_464 rfl (by decide) rfl s2 (by omega) rfl (by simp [Value.category]) (Nat.le_of_ble_eq_true rfl) rfl rfl (cat8 rfl) ?_
  refine x_icmp_eq 832 dL_law_467 (by decide) (fun c_467 => ?_) (fun c_467 => ?_)
  · exact h9
  · exact absurd rfl c_467
theorem law_14 {L : Nat} {xs : Nat → Int32} {i : Nat} (hi : i + 2 < L) (hL : L ≤ 1536) {M : Mem} {K n : Nat} (hI : Inv2 M K n) (hk : ∀ M1 : Mem, Inv M1 → ∃ M9 : Mem, XL L xs 832 (lwLs i) [] M1 M9) : ∃ M9 : Mem, XL L xs 32 (lwLs i) [.int (nI 14)] M M9 := by
  obtain ⟨a, M1, M2, s1, s2, inv⟩ := ok_why (xs (i + 1)) M K n hI
  obtain ⟨M9, h9⟩ := hk M2 inv
  refine ⟨M9, ?_⟩
  refine x_tableIn (off := 440) 472 dL_law_32 (by decide) (by decide) (by decide) (by decide) ?_
  refine x_aload_n dL_law_472 rfl ?_
  refine x_aload_n dL_law_473 rfl ?_
  refine x_iload_n dL_law_474 rfl ?_
  refine x_iconstv (v := 1) dL_law_475 (by decide) ?_
  refine x_iadd dL_law_476 ?_
  rw [show nI i + 1 = nI (i + 1) from nI_add i 1]
  refine x_sld dL_law_477 (vp_in_nI (n := i + 1) (N := L) (by omega) (by omega)) ?_
  rw [nI_clamp (show i + 1 < 2 ^ 31 by omega)]
  refine l_callV (as := [_]) okX5_why lkL_72 dL_law_478 rfl (by decide) rfl s1 (by omega) rfl (by simp [Value.category]) (Nat.le_of_ble_eq_true rfl) rfl rfl (cat8 rfl) ?_
  refine x_aload_n dL_law_481 rfl ?_
  refine x_aload_n dL_law_482 rfl ?_
  refine x_iload_n dL_law_483 rfl ?_
  refine x_iconstv (v := 1) dL_law_484 (by decide) ?_
  refine x_iadd dL_law_485 ?_
  rw [show nI i + 1 = nI (i + 1) from nI_add i 1]
  refine x_sld dL_law_486 (vp_in_nI (n := i + 1) (N := L) (by omega) (by omega)) ?_
  rw [nI_clamp (show i + 1 < 2 ^ 31 by omega)]
  refine l_callV (as := [_]) okX6_why lkL_75 dL_law_487 rfl (by decide) rfl s2 (by omega) rfl (by simp [Value.category]) (Nat.le_of_ble_eq_true rfl) rfl rfl (cat8 rfl) ?_
  refine x_icmp_eq 832 dL_law_490 (by decide) (fun c_490 => ?_) (fun c_490 => ?_)
  · exact h9
  · exact absurd rfl c_490
theorem law_15 {L : Nat} {xs : Nat → Int32} {i : Nat} (hi : i + 2 < L) (hL : L ≤ 1536) {M : Mem} {K n : Nat} (hI : Inv2 M K n) (hk : ∀ M1 : Mem, Inv M1 → ∃ M9 : Mem, XL L xs 832 (lwLs i) [] M1 M9) : ∃ M9 : Mem, XL L xs 32 (lwLs i) [.int (nI 15)] M M9 := by
  obtain ⟨a, M1, M2, s1, s2, inv⟩ := ok_trader (xs (i + 1)) (xs (i + 2)) M K n hI
  obtain ⟨M9, h9⟩ := hk M2 inv
  refine ⟨M9, ?_⟩
  refine x_tableIn (off := 463) 495 dL_law_32 (by decide) (by decide) (by decide) (by decide) ?_
  refine x_aload_n dL_law_495 rfl ?_
  refine x_aload_n dL_law_496 rfl ?_
  refine x_iload_n dL_law_497 rfl ?_
  refine x_iconstv (v := 1) dL_law_498 (by decide) ?_
  refine x_iadd dL_law_499 ?_
  rw [show nI i + 1 = nI (i + 1) from nI_add i 1]
  refine x_sld dL_law_500 (vp_in_nI (n := i + 1) (N := L) (by omega) (by omega)) ?_
  rw [nI_clamp (show i + 1 < 2 ^ 31 by omega)]
  refine x_aload_n dL_law_501 rfl ?_
  refine x_iload_n dL_law_502 rfl ?_
  refine x_iconstv (v := 2) dL_law_503 (by decide) ?_
  refine x_iadd dL_law_504 ?_
  rw [show nI i + 2 = nI (i + 2) from nI_add i 2]
  refine x_sld dL_law_505 (vp_in_nI (n := i + 2) (N := L) (by omega) (by omega)) ?_
  rw [nI_clamp (show i + 2 < 2 ^ 31 by omega)]
  refine l_callV (as := [_, _]) okX5_trader lkL_76 dL_law_506 rfl (by decide) rfl s1 (by omega) rfl (by simp [Value.category]) (Nat.le_of_ble_eq_true rfl) rfl rfl (cat8 rfl) ?_
  refine x_aload_n dL_law_509 rfl ?_
  refine x_aload_n dL_law_510 rfl ?_
  refine x_iload_n dL_law_511 rfl ?_
  refine x_iconstv (v := 1) dL_law_512 (by decide) ?_
  refine x_iadd dL_law_513 ?_
  rw [show nI i + 1 = nI (i + 1) from nI_add i 1]
  refine x_sld dL_law_514 (vp_in_nI (n := i + 1) (N := L) (by omega) (by omega)) ?_
  rw [nI_clamp (show i + 1 < 2 ^ 31 by omega)]
  refine x_aload_n dL_law_515 rfl ?_
  refine x_iload_n dL_law_516 rfl ?_
  refine x_iconstv (v := 2) dL_law_517 (by decide) ?_
  refine x_iadd dL_law_518 ?_
  rw [show nI i + 2 = nI (i + 2) from nI_add i 2]
  refine x_sld dL_law_519 (vp_in_nI (n := i + 2) (N := L) (by omega) (by omega)) ?_
  rw [nI_clamp (show i + 2 < 2 ^ 31 by omega)]
  refine l_callV (as := [_, _]) okX6_trader lkL_79 dL_law_520 rfl (by decide) rfl s2 (by omega) rfl (by simp [Value.category]) (Nat.le_of_ble_eq_true rfl) rfl rfl (cat8 rfl) ?_
  refine x_icmp_eq 832 dL_law_523 (by decide) (fun c_523 => ?_) (fun c_523 => ?_)
  · exact h9
  · exact absurd rfl c_523
theorem law_16 {L : Nat} {xs : Nat → Int32} {i : Nat} (hi : i + 2 < L) (hL : L ≤ 1536) {M : Mem} {K n : Nat} (hI : Inv2 M K n) (hk : ∀ M1 : Mem, Inv M1 → ∃ M9 : Mem, XL L xs 832 (lwLs i) [] M1 M9) : ∃ M9 : Mem, XL L xs 32 (lwLs i) [.int (nI 16)] M M9 := by
  obtain ⟨a, M1, M2, s1, s2, inv⟩ := ok_can (xs (i + 1)) (xs (i + 2)) M K n hI
  obtain ⟨M9, h9⟩ := hk M2 inv
  refine ⟨M9, ?_⟩
  refine x_tableIn (off := 496) 528 dL_law_32 (by decide) (by decide) (by decide) (by decide) ?_
  refine x_aload_n dL_law_528 rfl ?_
  refine x_aload_n dL_law_529 rfl ?_
  refine x_iload_n dL_law_530 rfl ?_
  refine x_iconstv (v := 1) dL_law_531 (by decide) ?_
  refine x_iadd dL_law_532 ?_
  rw [show nI i + 1 = nI (i + 1) from nI_add i 1]
  refine x_sld dL_law_533 (vp_in_nI (n := i + 1) (N := L) (by omega) (by omega)) ?_
  rw [nI_clamp (show i + 1 < 2 ^ 31 by omega)]
  refine x_aload_n dL_law_534 rfl ?_
  refine x_iload_n dL_law_535 rfl ?_
  refine x_iconstv (v := 2) dL_law_536 (by decide) ?_
  refine x_iadd dL_law_537 ?_
  rw [show nI i + 2 = nI (i + 2) from nI_add i 2]
  refine x_sld dL_law_538 (vp_in_nI (n := i + 2) (N := L) (by omega) (by omega)) ?_
  rw [nI_clamp (show i + 2 < 2 ^ 31 by omega)]
  refine l_callV (as := [_, _]) okX5_can lkL_80 dL_law_539 rfl (by decide) rfl s1 (by omega) rfl (by simp [Value.category]) (Nat.le_of_ble_eq_true rfl) rfl rfl (cat8 rfl) ?_
  refine x_aload_n dL_law_542 rfl ?_
  refine x_aload_n dL_law_543 rfl ?_
  refine x_iload_n dL_law_544 rfl ?_
  refine x_iconstv (v := 1) dL_law_545 (by decide) ?_
  refine x_iadd dL_law_546 ?_
  rw [show nI i + 1 = nI (i + 1) from nI_add i 1]
  refine x_sld dL_law_547 (vp_in_nI (n := i + 1) (N := L) (by omega) (by omega)) ?_
  rw [nI_clamp (show i + 1 < 2 ^ 31 by omega)]
  refine x_aload_n dL_law_548 rfl ?_
  refine x_iload_n dL_law_549 rfl ?_
  refine x_iconstv (v := 2) dL_law_550 (by decide) ?_
  refine x_iadd dL_law_551 ?_
  rw [show nI i + 2 = nI (i + 2) from nI_add i 2]
  refine x_sld dL_law_552 (vp_in_nI (n := i + 2) (N := L) (by omega) (by omega)) ?_
  rw [nI_clamp (show i + 2 < 2 ^ 31 by omega)]
  refine l_callV (as := [_, _]) okX6_can lkL_83 dL_law_553 rfl (by decide) rfl s2 (by omega) rfl (by simp [Value.category]) (Nat.le_of_ble_eq_true rfl) rfl rfl (cat8 rfl) ?_
  refine x_icmp_eq 832 dL_law_556 (by decide) (fun c_556 => ?_) (fun c_556 => ?_)
  · exact h9
  · exact absurd rfl c_556
theorem law_17 {L : Nat} {xs : Nat → Int32} {i : Nat} (hi : i + 2 < L) (hL : L ≤ 1536) {M : Mem} {K n : Nat} (hI : Inv2 M K n) (hk : ∀ M1 : Mem, Inv M1 → ∃ M9 : Mem, XL L xs 832 (lwLs i) [] M1 M9) : ∃ M9 : Mem, XL L xs 32 (lwLs i) [.int (nI 17)] M M9 := by
  obtain ⟨a, M1, M2, s1, s2, inv⟩ := ok_whyNot (xs (i + 1)) (xs (i + 2)) M K n hI
  obtain ⟨M9, h9⟩ := hk M2 inv
  refine ⟨M9, ?_⟩
  refine x_tableIn (off := 529) 561 dL_law_32 (by decide) (by decide) (by decide) (by decide) ?_
  refine x_aload_n dL_law_561 rfl ?_
  refine x_aload_n dL_law_562 rfl ?_
  refine x_iload_n dL_law_563 rfl ?_
  refine x_iconstv (v := 1) dL_law_564 (by decide) ?_
  refine x_iadd dL_law_565 ?_
  rw [show nI i + 1 = nI (i + 1) from nI_add i 1]
  refine x_sld dL_law_566 (vp_in_nI (n := i + 1) (N := L) (by omega) (by omega)) ?_
  rw [nI_clamp (show i + 1 < 2 ^ 31 by omega)]
  refine x_aload_n dL_law_567 rfl ?_
  refine x_iload_n dL_law_568 rfl ?_
  refine x_iconstv (v := 2) dL_law_569 (by decide) ?_
  refine x_iadd dL_law_570 ?_
  rw [show nI i + 2 = nI (i + 2) from nI_add i 2]
  refine x_sld dL_law_571 (vp_in_nI (n := i + 2) (N := L) (by omega) (by omega)) ?_
  rw [nI_clamp (show i + 2 < 2 ^ 31 by omega)]
  refine l_callV (as := [_, _]) okX5_whyNot lkL_84 dL_law_572 rfl (by decide) rfl s1 (by omega) rfl (by simp [Value.category]) (Nat.le_of_ble_eq_true rfl) rfl rfl (cat8 rfl) ?_
  refine x_aload_n dL_law_575 rfl ?_
  refine x_aload_n dL_law_576 rfl ?_
  refine x_iload_n dL_law_577 rfl ?_
  refine x_iconstv (v := 1) dL_law_578 (by decide) ?_
  refine x_iadd dL_law_579 ?_
  rw [show nI i + 1 = nI (i + 1) from nI_add i 1]
  refine x_sld dL_law_580 (vp_in_nI (n := i + 1) (N := L) (by omega) (by omega)) ?_
  rw [nI_clamp (show i + 1 < 2 ^ 31 by omega)]
  refine x_aload_n dL_law_581 rfl ?_
  refine x_iload_n dL_law_582 rfl ?_
  refine x_iconstv (v := 2) dL_law_583 (by decide) ?_
  refine x_iadd dL_law_584 ?_
  rw [show nI i + 2 = nI (i + 2) from nI_add i 2]
  refine x_sld dL_law_585 (vp_in_nI (n := i + 2) (N := L) (by omega) (by omega)) ?_
  rw [nI_clamp (show i + 2 < 2 ^ 31 by omega)]
  refine l_callV (as := [_, _]) okX6_whyNot lkL_87 dL_law_586 rfl (by decide) rfl s2 (by omega) rfl (by simp [Value.category]) (Nat.le_of_ble_eq_true rfl) rfl rfl (cat8 rfl) ?_
  refine x_icmp_eq 832 dL_law_589 (by decide) (fun c_589 => ?_) (fun c_589 => ?_)
  · exact h9
  · exact absurd rfl c_589
theorem law_18 {L : Nat} {xs : Nat → Int32} {i : Nat} (hi : i + 2 < L) (hL : L ≤ 1536) {M : Mem} {K n : Nat} (hI : Inv2 M K n) (hk : ∀ M1 : Mem, Inv M1 → ∃ M9 : Mem, XL L xs 832 (lwLs i) [] M1 M9) : ∃ M9 : Mem, XL L xs 32 (lwLs i) [.int (nI 18)] M M9 := by
  obtain ⟨a, M1, M2, s1, s2, inv⟩ := ok_most (xs (i + 1)) M K n hI
  obtain ⟨M9, h9⟩ := hk M2 inv
  refine ⟨M9, ?_⟩
  refine x_tableIn (off := 562) 594 dL_law_32 (by decide) (by decide) (by decide) (by decide) ?_
  refine x_aload_n dL_law_594 rfl ?_
  refine x_aload_n dL_law_595 rfl ?_
  refine x_iload_n dL_law_596 rfl ?_
  refine x_iconstv (v := 1) dL_law_597 (by decide) ?_
  refine x_iadd dL_law_598 ?_
  rw [show nI i + 1 = nI (i + 1) from nI_add i 1]
  refine x_sld dL_law_599 (vp_in_nI (n := i + 1) (N := L) (by omega) (by omega)) ?_
  rw [nI_clamp (show i + 1 < 2 ^ 31 by omega)]
  refine l_callV (as := [_]) okX5_most lkL_88 dL_law_600 rfl (by decide) rfl s1 (by omega) rfl (by simp [Value.category]) (Nat.le_of_ble_eq_true rfl) rfl rfl (cat8 rfl) ?_
  refine x_aload_n dL_law_603 rfl ?_
  refine x_aload_n dL_law_604 rfl ?_
  refine x_iload_n dL_law_605 rfl ?_
  refine x_iconstv (v := 1) dL_law_606 (by decide) ?_
  refine x_iadd dL_law_607 ?_
  rw [show nI i + 1 = nI (i + 1) from nI_add i 1]
  refine x_sld dL_law_608 (vp_in_nI (n := i + 1) (N := L) (by omega) (by omega)) ?_
  rw [nI_clamp (show i + 1 < 2 ^ 31 by omega)]
  refine l_callV (as := [_]) okX6_most lkL_91 dL_law_609 rfl (by decide) rfl s2 (by omega) rfl (by simp [Value.category]) (Nat.le_of_ble_eq_true rfl) rfl rfl (cat8 rfl) ?_
  refine x_icmp_eq 832 dL_law_612 (by decide) (fun c_612 => ?_) (fun c_612 => ?_)
  · exact h9
  · exact absurd rfl c_612
theorem law_19 {L : Nat} {xs : Nat → Int32} {i : Nat} (hi : i + 2 < L) (hL : L ≤ 1536) {M : Mem} {K n : Nat} (hI : Inv2 M K n) (hk : ∀ M1 : Mem, Inv M1 → ∃ M9 : Mem, XL L xs 832 (lwLs i) [] M1 M9) : ∃ M9 : Mem, XL L xs 32 (lwLs i) [.int (nI 19)] M M9 := by
  obtain ⟨a, M1, M2, s1, s2, inv⟩ := ok_kind (xs (i + 1)) (xs (i + 2)) M K n hI
  obtain ⟨M9, h9⟩ := hk M2 inv
  refine ⟨M9, ?_⟩
  refine x_tableIn (off := 585) 617 dL_law_32 (by decide) (by decide) (by decide) (by decide) ?_
  refine x_aload_n dL_law_617 rfl ?_
  refine x_aload_n dL_law_618 rfl ?_
  refine x_iload_n dL_law_619 rfl ?_
  refine x_iconstv (v := 1) dL_law_620 (by decide) ?_
  refine x_iadd dL_law_621 ?_
  rw [show nI i + 1 = nI (i + 1) from nI_add i 1]
  refine x_sld dL_law_622 (vp_in_nI (n := i + 1) (N := L) (by omega) (by omega)) ?_
  rw [nI_clamp (show i + 1 < 2 ^ 31 by omega)]
  refine x_aload_n dL_law_623 rfl ?_
  refine x_iload_n dL_law_624 rfl ?_
  refine x_iconstv (v := 2) dL_law_625 (by decide) ?_
  refine x_iadd dL_law_626 ?_
  rw [show nI i + 2 = nI (i + 2) from nI_add i 2]
  refine x_sld dL_law_627 (vp_in_nI (n := i + 2) (N := L) (by omega) (by omega)) ?_
  rw [nI_clamp (show i + 2 < 2 ^ 31 by omega)]
  refine l_callV (as := [_, _]) okX5_kind lkL_92 dL_law_628 rfl (by decide) rfl s1 (by omega) rfl (by simp [Value.category]) (Nat.le_of_ble_eq_true rfl) rfl rfl (cat8 rfl) ?_
  refine x_aload_n dL_law_631 rfl ?_
  refine x_aload_n dL_law_632 rfl ?_
  refine x_iload_n dL_law_633 rfl ?_
  refine x_iconstv (v := 1) dL_law_634 (by decide) ?_
  refine x_iadd dL_law_635 ?_
  rw [show nI i + 1 = nI (i + 1) from nI_add i 1]
  refine x_sld dL_law_636 (vp_in_nI (n := i + 1) (N := L) (by omega) (by omega)) ?_
  rw [nI_clamp (show i + 1 < 2 ^ 31 by omega)]
  refine x_aload_n dL_law_637 rfl ?_
  refine x_iload_n dL_law_638 rfl ?_
  refine x_iconstv (v := 2) dL_law_639 (by decide) ?_
  refine x_iadd dL_law_640 ?_
  rw [show nI i + 2 = nI (i + 2) from nI_add i 2]
  refine x_sld dL_law_641 (vp_in_nI (n := i + 2) (N := L) (by omega) (by omega)) ?_
  rw [nI_clamp (show i + 2 < 2 ^ 31 by omega)]
  refine l_callV (as := [_, _]) okX6_kind lkL_95 dL_law_642 rfl (by decide) rfl s2 (by omega) rfl (by simp [Value.category]) (Nat.le_of_ble_eq_true rfl) rfl rfl (cat8 rfl) ?_
  refine x_icmp_eq 832 dL_law_645 (by decide) (fun c_645 => ?_) (fun c_645 => ?_)
  · exact h9
  · exact absurd rfl c_645
theorem law_20 {L : Nat} {xs : Nat → Int32} {i : Nat} (hi : i + 2 < L) (hL : L ≤ 1536) {M : Mem} {K n : Nat} (hI : Inv2 M K n) (hk : ∀ M1 : Mem, Inv M1 → ∃ M9 : Mem, XL L xs 832 (lwLs i) [] M1 M9) : ∃ M9 : Mem, XL L xs 32 (lwLs i) [.int (nI 20)] M M9 := by
  obtain ⟨a, M1, M2, s1, s2, inv⟩ := ok_count (xs (i + 1)) M K n hI
  obtain ⟨M9, h9⟩ := hk M2 inv
  refine ⟨M9, ?_⟩
  refine x_tableIn (off := 618) 650 dL_law_32 (by decide) (by decide) (by decide) (by decide) ?_
  refine x_aload_n dL_law_650 rfl ?_
  refine x_aload_n dL_law_651 rfl ?_
  refine x_iload_n dL_law_652 rfl ?_
  refine x_iconstv (v := 1) dL_law_653 (by decide) ?_
  refine x_iadd dL_law_654 ?_
  rw [show nI i + 1 = nI (i + 1) from nI_add i 1]
  refine x_sld dL_law_655 (vp_in_nI (n := i + 1) (N := L) (by omega) (by omega)) ?_
  rw [nI_clamp (show i + 1 < 2 ^ 31 by omega)]
  refine l_callV (as := [_]) okX5_count lkL_96 dL_law_656 rfl (by decide) rfl s1 (by omega) rfl (by simp [Value.category]) (Nat.le_of_ble_eq_true rfl) rfl rfl (cat8 rfl) ?_
  refine x_aload_n dL_law_659 rfl ?_
  refine x_aload_n dL_law_660 rfl ?_
  refine x_iload_n dL_law_661 rfl ?_
  refine x_iconstv (v := 1) dL_law_662 (by decide) ?_
  refine x_iadd dL_law_663 ?_
  rw [show nI i + 1 = nI (i + 1) from nI_add i 1]
  refine x_sld dL_law_664 (vp_in_nI (n := i + 1) (N := L) (by omega) (by omega)) ?_
  rw [nI_clamp (show i + 1 < 2 ^ 31 by omega)]
  refine l_callV (as := [_]) okX6_count lkL_99 dL_law_665 rfl (by decide) rfl s2 (by omega) rfl (by simp [Value.category]) (Nat.le_of_ble_eq_true rfl) rfl rfl (cat8 rfl) ?_
  refine x_icmp_eq 832 dL_law_668 (by decide) (fun c_668 => ?_) (fun c_668 => ?_)
  · exact h9
  · exact absurd rfl c_668
theorem law_21 {L : Nat} {xs : Nat → Int32} {i : Nat} (hi : i + 2 < L) (hL : L ≤ 1536) {M : Mem} {K n : Nat} (hI : Inv2 M K n) (hk : ∀ M1 : Mem, Inv M1 → ∃ M9 : Mem, XL L xs 832 (lwLs i) [] M1 M9) : ∃ M9 : Mem, XL L xs 32 (lwLs i) [.int (nI 21)] M M9 := by
  obtain ⟨v, hv, s1, s2⟩ := ok_fresh hI
  obtain ⟨M9, h9⟩ := hk M ⟨K, n, hI⟩
  refine ⟨M9, ?_⟩
  refine x_tableIn (off := 641) 673 dL_law_32 (by decide) (by decide) (by decide) (by decide) ?_
  refine x_aload_n dL_law_673 rfl ?_
  refine l_callV (as := []) okX5_freshness lkL_100 dL_law_674 rfl (by decide) rfl s1 (by omega) rfl (by simp [Value.category]) (Nat.le_of_ble_eq_true rfl) rfl rfl (cat8 rfl) ?_
  refine x_dstore dL_law_677 (by decide) rfl ?_
  refine x_aload_n dL_law_679 rfl ?_
  refine l_callV (as := []) okX6_freshness lkL_104 dL_law_680 rfl (by decide) rfl s2 (by omega) rfl (by simp [Value.category]) (Nat.le_of_ble_eq_true rfl) rfl rfl (cat8 rfl) ?_
  refine x_dstore dL_law_683 (by decide) rfl ?_
  refine x_dload dL_law_685 rfl ?_
  refine x_dload dL_law_687 rfl ?_
  refine x_dcmp dL_law_689 ?_
  rw [hv]
  refine x_if_eq 711 dL_law_690 (by decide) (fun c_690 => ?_) (fun c_690 => ?_)
  rotate_left
  · exact absurd (by rfl) c_690
  refine x_goto 832 dL_law_711 (by decide) ?_
  exact lsw_lw h9
theorem law_22 {L : Nat} {xs : Nat → Int32} {i : Nat} (hi : i + 2 < L) (hL : L ≤ 1536) {M : Mem} {K n : Nat} (hI : Inv2 M K n) (hk : ∀ M1 : Mem, Inv M1 → ∃ M9 : Mem, XL L xs 832 (lwLs i) [] M1 M9) : ∃ M9 : Mem, XL L xs 32 (lwLs i) [.int (nI 22)] M M9 := by
  obtain ⟨a, M1, M2, s1, s2, inv⟩ := ok_ifCircle (xs (i + 1)) M K n hI
  obtain ⟨M9, h9⟩ := hk M2 inv
  refine ⟨M9, ?_⟩
  refine x_tableIn (off := 682) 714 dL_law_32 (by decide) (by decide) (by decide) (by decide) ?_
  refine x_aload_n dL_law_714 rfl ?_
  refine x_aload_n dL_law_715 rfl ?_
  refine x_iload_n dL_law_716 rfl ?_
  refine x_iconstv (v := 1) dL_law_717 (by decide) ?_
  refine x_iadd dL_law_718 ?_
  rw [show nI i + 1 = nI (i + 1) from nI_add i 1]
  refine x_sld dL_law_719 (vp_in_nI (n := i + 1) (N := L) (by omega) (by omega)) ?_
  rw [nI_clamp (show i + 1 < 2 ^ 31 by omega)]
  refine l_callV (as := [_]) okX5_ifCircle lkL_105 dL_law_720 rfl (by decide) rfl s1 (by omega) rfl (by simp [Value.category]) (Nat.le_of_ble_eq_true rfl) rfl rfl (cat8 rfl) ?_
  refine x_aload_n dL_law_723 rfl ?_
  refine x_aload_n dL_law_724 rfl ?_
  refine x_iload_n dL_law_725 rfl ?_
  refine x_iconstv (v := 1) dL_law_726 (by decide) ?_
  refine x_iadd dL_law_727 ?_
  rw [show nI i + 1 = nI (i + 1) from nI_add i 1]
  refine x_sld dL_law_728 (vp_in_nI (n := i + 1) (N := L) (by omega) (by omega)) ?_
  rw [nI_clamp (show i + 1 < 2 ^ 31 by omega)]
  refine l_callV (as := [_]) okX6_ifCircle lkL_108 dL_law_729 rfl (by decide) rfl s2 (by omega) rfl (by simp [Value.category]) (Nat.le_of_ble_eq_true rfl) rfl rfl (cat8 rfl) ?_
  refine x_icmp_eq 832 dL_law_732 (by decide) (fun c_732 => ?_) (fun c_732 => ?_)
  · exact h9
  · exact absurd rfl c_732
theorem law_23 {L : Nat} {xs : Nat → Int32} {i : Nat} (hi : i + 2 < L) (hL : L ≤ 1536) {M : Mem} {K n : Nat} (hI : Inv2 M K n) (hk : ∀ M1 : Mem, Inv M1 → ∃ M9 : Mem, XL L xs 832 (lwLs i) [] M1 M9) : ∃ M9 : Mem, XL L xs 32 (lwLs i) [.int (nI 23)] M M9 := by
  obtain ⟨a, M1, M2, s1, s2, inv⟩ := ok_ifDays (xs (i + 1)) (xs (i + 2)) M K n hI
  obtain ⟨M9, h9⟩ := hk M2 inv
  refine ⟨M9, ?_⟩
  refine x_tableIn (off := 705) 737 dL_law_32 (by decide) (by decide) (by decide) (by decide) ?_
  refine x_aload_n dL_law_737 rfl ?_
  refine x_aload_n dL_law_738 rfl ?_
  refine x_iload_n dL_law_739 rfl ?_
  refine x_iconstv (v := 1) dL_law_740 (by decide) ?_
  refine x_iadd dL_law_741 ?_
  rw [show nI i + 1 = nI (i + 1) from nI_add i 1]
  refine x_sld dL_law_742 (vp_in_nI (n := i + 1) (N := L) (by omega) (by omega)) ?_
  rw [nI_clamp (show i + 1 < 2 ^ 31 by omega)]
  refine x_aload_n dL_law_743 rfl ?_
  refine x_iload_n dL_law_744 rfl ?_
  refine x_iconstv (v := 2) dL_law_745 (by decide) ?_
  refine x_iadd dL_law_746 ?_
  rw [show nI i + 2 = nI (i + 2) from nI_add i 2]
  refine x_sld dL_law_747 (vp_in_nI (n := i + 2) (N := L) (by omega) (by omega)) ?_
  rw [nI_clamp (show i + 2 < 2 ^ 31 by omega)]
  refine l_callV (as := [_, _]) okX5_ifDays lkL_109 dL_law_748 rfl (by decide) rfl s1 (by omega) rfl (by simp [Value.category]) (Nat.le_of_ble_eq_true rfl) rfl rfl (cat8 rfl) ?_
  refine x_aload_n dL_law_751 rfl ?_
  refine x_aload_n dL_law_752 rfl ?_
  refine x_iload_n dL_law_753 rfl ?_
  refine x_iconstv (v := 1) dL_law_754 (by decide) ?_
  refine x_iadd dL_law_755 ?_
  rw [show nI i + 1 = nI (i + 1) from nI_add i 1]
  refine x_sld dL_law_756 (vp_in_nI (n := i + 1) (N := L) (by omega) (by omega)) ?_
  rw [nI_clamp (show i + 1 < 2 ^ 31 by omega)]
  refine x_aload_n dL_law_757 rfl ?_
  refine x_iload_n dL_law_758 rfl ?_
  refine x_iconstv (v := 2) dL_law_759 (by decide) ?_
  refine x_iadd dL_law_760 ?_
  rw [show nI i + 2 = nI (i + 2) from nI_add i 2]
  refine x_sld dL_law_761 (vp_in_nI (n := i + 2) (N := L) (by omega) (by omega)) ?_
  rw [nI_clamp (show i + 2 < 2 ^ 31 by omega)]
  refine l_callV (as := [_, _]) okX6_ifDays lkL_112 dL_law_762 rfl (by decide) rfl s2 (by omega) rfl (by simp [Value.category]) (Nat.le_of_ble_eq_true rfl) rfl rfl (cat8 rfl) ?_
  refine x_icmp_eq 832 dL_law_765 (by decide) (fun c_765 => ?_) (fun c_765 => ?_)
  · exact h9
  · exact absurd rfl c_765
theorem law_24 {L : Nat} {xs : Nat → Int32} {i : Nat} (hi : i + 2 < L) (hL : L ≤ 1536) {M : Mem} {K n : Nat} (hI : Inv2 M K n) (hk : ∀ M1 : Mem, Inv M1 → ∃ M9 : Mem, XL L xs 832 (lwLs i) [] M1 M9) : ∃ M9 : Mem, XL L xs 32 (lwLs i) [.int (nI 24)] M M9 := by
  obtain ⟨a, M1, M2, s1, s2, inv⟩ := ok_bestWant (xs (i + 1)) M K n hI
  obtain ⟨M9, h9⟩ := hk M2 inv
  refine ⟨M9, ?_⟩
  refine x_tableIn (off := 738) 770 dL_law_32 (by decide) (by decide) (by decide) (by decide) ?_
  refine x_aload_n dL_law_770 rfl ?_
  refine x_aload_n dL_law_771 rfl ?_
  refine x_iload_n dL_law_772 rfl ?_
  refine x_iconstv (v := 1) dL_law_773 (by decide) ?_
  refine x_iadd dL_law_774 ?_
  rw [show nI i + 1 = nI (i + 1) from nI_add i 1]
  refine x_sld dL_law_775 (vp_in_nI (n := i + 1) (N := L) (by omega) (by omega)) ?_
  rw [nI_clamp (show i + 1 < 2 ^ 31 by omega)]
  refine l_callV (as := [_]) okX5_bestWant lkL_113 dL_law_776 rfl (by decide) rfl s1 (by omega) rfl (by simp [Value.category]) (Nat.le_of_ble_eq_true rfl) rfl rfl (cat8 rfl) ?_
  refine x_aload_n dL_law_779 rfl ?_
  refine x_aload_n dL_law_780 rfl ?_
  refine x_iload_n dL_law_781 rfl ?_
  refine x_iconstv (v := 1) dL_law_782 (by decide) ?_
  refine x_iadd dL_law_783 ?_
  rw [show nI i + 1 = nI (i + 1) from nI_add i 1]
  refine x_sld dL_law_784 (vp_in_nI (n := i + 1) (N := L) (by omega) (by omega)) ?_
  rw [nI_clamp (show i + 1 < 2 ^ 31 by omega)]
  refine l_callV (as := [_]) okX6_bestWant lkL_116 dL_law_785 rfl (by decide) rfl s2 (by omega) rfl (by simp [Value.category]) (Nat.le_of_ble_eq_true rfl) rfl rfl (cat8 rfl) ?_
  refine x_icmp_eq 832 dL_law_788 (by decide) (fun c_788 => ?_) (fun c_788 => ?_)
  · exact h9
  · exact absurd rfl c_788
theorem law_25 {L : Nat} {xs : Nat → Int32} {i : Nat} (hi : i + 2 < L) (hL : L ≤ 1536) {M : Mem} {K n : Nat} (hI : Inv2 M K n) (hk : ∀ M1 : Mem, Inv M1 → ∃ M9 : Mem, XL L xs 832 (lwLs i) [] M1 M9) : ∃ M9 : Mem, XL L xs 32 (lwLs i) [.int (nI 25)] M M9 := by
  obtain ⟨a, M1, M2, s1, s2, inv⟩ := ok_undo  M K n hI
  obtain ⟨M9, h9⟩ := hk M2 inv
  refine ⟨M9, ?_⟩
  refine x_tableIn (off := 761) 793 dL_law_32 (by decide) (by decide) (by decide) (by decide) ?_
  refine x_aload_n dL_law_793 rfl ?_
  refine l_callV (as := []) okX5_undo lkL_117 dL_law_794 rfl (by decide) rfl s1 (by omega) rfl (by simp [Value.category]) (Nat.le_of_ble_eq_true rfl) rfl rfl (cat8 rfl) ?_
  refine x_aload_n dL_law_797 rfl ?_
  refine l_callV (as := []) okX6_undo lkL_120 dL_law_798 rfl (by decide) rfl s2 (by omega) rfl (by simp [Value.category]) (Nat.le_of_ble_eq_true rfl) rfl rfl (cat8 rfl) ?_
  refine x_icmp_eq 832 dL_law_801 (by decide) (fun c_801 => ?_) (fun c_801 => ?_)
  · exact h9
  · exact absurd rfl c_801
theorem law_26 {L : Nat} {xs : Nat → Int32} {i : Nat} (hi : i + 2 < L) (hL : L ≤ 1536) {M : Mem} {K n : Nat} (hI : Inv2 M K n) (hk : ∀ M1 : Mem, Inv M1 → ∃ M9 : Mem, XL L xs 832 (lwLs i) [] M1 M9) : ∃ M9 : Mem, XL L xs 32 (lwLs i) [.int (nI 26)] M M9 := by
  obtain ⟨a, M1, M2, s1, s2, inv⟩ := ok_save  M K n hI
  obtain ⟨M9, h9⟩ := hk M2 inv
  refine ⟨M9, ?_⟩
  refine x_tableIn (off := 774) 806 dL_law_32 (by decide) (by decide) (by decide) (by decide) ?_
  refine x_aload_n dL_law_806 rfl ?_
  refine l_callV (as := []) okX5_save lkL_121 dL_law_807 rfl (by decide) rfl s1 (by omega) rfl (by simp [Value.category]) (Nat.le_of_ble_eq_true rfl) rfl rfl (cat8 rfl) ?_
  refine x_aload_n dL_law_810 rfl ?_
  refine l_callV (as := []) okX6_save lkL_124 dL_law_811 rfl (by decide) rfl s2 (by omega) rfl (by simp [Value.category]) (Nat.le_of_ble_eq_true rfl) rfl rfl (cat8 rfl) ?_
  refine x_icmp_eq 832 dL_law_814 (by decide) (fun c_814 => ?_) (fun c_814 => ?_)
  · exact h9
  · exact absurd rfl c_814
theorem law_27 {L : Nat} {xs : Nat → Int32} {i : Nat} (hi : i + 2 < L) (hL : L ≤ 1536) {M : Mem} {K n : Nat} (hI : Inv2 M K n) (hk : ∀ M1 : Mem, Inv M1 → ∃ M9 : Mem, XL L xs 832 (lwLs i) [] M1 M9) : ∃ M9 : Mem, XL L xs 32 (lwLs i) [.int (nI 27)] M M9 := by
  obtain ⟨a, M1, M2, s1, s2, inv⟩ := ok_restore  M K n hI
  obtain ⟨M9, h9⟩ := hk M2 inv
  refine ⟨M9, ?_⟩
  refine x_tableIn (off := 787) 819 dL_law_32 (by decide) (by decide) (by decide) (by decide) ?_
  refine x_aload_n dL_law_819 rfl ?_
  refine l_callV (as := []) okX5_restore lkL_125 dL_law_820 rfl (by decide) rfl s1 (by omega) rfl (by simp [Value.category]) (Nat.le_of_ble_eq_true rfl) rfl rfl (cat8 rfl) ?_
  refine x_aload_n dL_law_823 rfl ?_
  refine l_callV (as := []) okX6_restore lkL_128 dL_law_824 rfl (by decide) rfl s2 (by omega) rfl (by simp [Value.category]) (Nat.le_of_ble_eq_true rfl) rfl rfl (cat8 rfl) ?_
  refine x_icmp_eq 832 dL_law_827 (by decide) (fun c_827 => ?_) (fun c_827 => ?_)
  · exact h9
  · exact absurd rfl c_827
theorem law_d {L : Nat} {xs : Nat → Int32} {i : Nat} (hi : i + 2 < L) (hL : L ≤ 1536) {M : Mem} {K n : Nat} (hI : Inv2 M K n) (hk : ∀ M1 : Mem, Inv M1 → ∃ M9 : Mem, XL L xs 832 (lwLs i) [] M1 M9) {k : Nat} (h1 : 28 ≤ k) (h2 : k < 32) : ∃ M9 : Mem, XL L xs 32 (lwLs i) [.int (nI k)] M M9 := by
  obtain ⟨M9, h9⟩ := hk M ⟨K, n, hI⟩
  refine ⟨M9, ?_⟩
  have ht := nI_toInt (n := k) (by omega)
  exact x_tableOut 832 dL_law_32 (by rw [ht]; omega) (by decide) h9
theorem law_sw {L : Nat} {xs : Nat → Int32} {i : Nat} (hi : i + 2 < L) (hL : L ≤ 1536) {M : Mem} {K n : Nat} (hI : Inv2 M K n) (hk : ∀ M1 : Mem, Inv M1 → ∃ M9 : Mem, XL L xs 832 (lwLs i) [] M1 M9) {k : Nat} (h2 : k < 32) : ∃ M9 : Mem, XL L xs 32 (lwLs i) [.int (nI k)] M M9 := by
  by_cases h1 : 28 ≤ k
  · exact law_d hi hL hI hk h1 h2
  · rcases (show k = 0 ∨ k = 1 ∨ k = 2 ∨ k = 3 ∨ k = 4 ∨ k = 5 ∨ k = 6 ∨ k = 7 ∨ k = 8 ∨ k = 9 ∨ k = 10 ∨ k = 11 ∨ k = 12 ∨ k = 13 ∨ k = 14 ∨ k = 15 ∨ k = 16 ∨ k = 17 ∨ k = 18 ∨ k = 19 ∨ k = 20 ∨ k = 21 ∨ k = 22 ∨ k = 23 ∨ k = 24 ∨ k = 25 ∨ k = 26 ∨ k = 27 by omega) with rfl | rfl | rfl | rfl | rfl | rfl | rfl | rfl | rfl | rfl | rfl | rfl | rfl | rfl | rfl | rfl | rfl | rfl | rfl | rfl | rfl | rfl | rfl | rfl | rfl | rfl | rfl | rfl
    · exact law_0 hi hL hI hk
    · exact law_1 hi hL hI hk
    · exact law_2 hi hL hI hk
    · exact law_3 hi hL hI hk
    · exact law_4 hi hL hI hk
    · exact law_5 hi hL hI hk
    · exact law_6 hi hL hI hk
    · exact law_7 hi hL hI hk
    · exact law_8 hi hL hI hk
    · exact law_9 hi hL hI hk
    · exact law_10 hi hL hI hk
    · exact law_11 hi hL hI hk
    · exact law_12 hi hL hI hk
    · exact law_13 hi hL hI hk
    · exact law_14 hi hL hI hk
    · exact law_15 hi hL hI hk
    · exact law_16 hi hL hI hk
    · exact law_17 hi hL hI hk
    · exact law_18 hi hL hI hk
    · exact law_19 hi hL hI hk
    · exact law_20 hi hL hI hk
    · exact law_21 hi hL hI hk
    · exact law_22 hi hL hI hk
    · exact law_23 hi hL hI hk
    · exact law_24 hi hL hI hk
    · exact law_25 hi hL hI hk
    · exact law_26 hi hL hI hk
    · exact law_27 hi hL hI hk
theorem law_loop {L : Nat} {xs : Nat → Int32} (hL : L ≤ 1536) : ∀ (f i : Nat) (M : Mem), L + 3 - i < f → i ≤ L + 3 → Inv M → ∃ M9 : Mem, XL L xs 18 (lwLs i) [] M M9 := by
  intro f
  induction f with
  | zero => intro i M h; omega
  | succ f ih =>
    intro i M hf hiL hI
    obtain ⟨K, n, hI⟩ := hI
    have hc := cmp_L (L := L) (i := i) hL (by omega)
    by_cases hin : L < i + 3
    · refine ⟨M, ?_⟩
      refine x_iload_n dL_law_18 rfl ?_
      refine x_aload_n dL_law_19 rfl ?_
      refine x_slen dL_law_20 ?_
      refine x_iconstv (v := 3) dL_law_21 (by decide) ?_
      refine x_isub dL_law_22 ?_
      refine x_icmp_gt 838 dL_law_23 (by decide) (fun c_23 => ?_) (fun c_23 => ?_)
      · refine x_iconstv (v := 1) dL_law_838 (by decide) ?_
        exact x_ireturn dL_law_839 rfl rfl
      · exact absurd (hc.mpr hin) c_23
    · have hk : ∀ M1 : Mem, Inv M1 → ∃ M9 : Mem, XL L xs 832 (lwLs i) [] M1 M9 := by
        intro M1 hI1
        obtain ⟨M9, h9⟩ := ih (i + 3) M1 (by omega) (by omega) hI1
        refine ⟨M9, ?_⟩
        refine x_iincv (v := 3) dL_law_832 rfl (by decide) rfl (by decide) ?_
        refine x_goto 18 dL_law_835 (by decide) ?_
        rw [show nI i + 3 = nI (i + 3) from nI_add i 3]
        exact h9
      obtain ⟨k, hk2, he⟩ := and31 (xs i)
      obtain ⟨M9, h9⟩ := law_sw (i := i) (by omega) hL hI hk hk2
      refine ⟨M9, ?_⟩
      refine x_iload_n dL_law_18 rfl ?_
      refine x_aload_n dL_law_19 rfl ?_
      refine x_slen dL_law_20 ?_
      refine x_iconstv (v := 3) dL_law_21 (by decide) ?_
      refine x_isub dL_law_22 ?_
      refine x_icmp_gt 838 dL_law_23 (by decide) (fun c_23 => ?_) (fun c_23 => ?_)
      · exact absurd (hc.mp c_23) hin
      · refine x_aload_n dL_law_26 rfl ?_
        refine x_iload_n dL_law_27 rfl ?_
        refine x_sld dL_law_28 (vp_in_nI (n := i) (N := L) (by omega) (by omega)) ?_
        rw [nI_clamp (show i < 2 ^ 31 by omega)]
        refine x_bipushv (v := 31) dL_law_29 (by decide) ?_
        refine x_iand dL_law_31 ?_
        rw [he]
        exact h9
theorem law_main {L : Nat} {xs : Nat → Int32} (hL : L ≤ 1536) : ∃ M9 : Mem, X (some (L, xs)) 40 m_law 0 (lent 8 [.ref scrId]) [] [] (some (.int 1)) (emb M9) := by
  obtain ⟨M9, h9⟩ := law_loop (xs := xs) hL (L + 4) 0 ini (by omega) (by omega) ⟨0, 0, ini_Inv⟩
  refine ⟨M9, ?_⟩
  show X (some (L, xs)) 40 m_law 0 (lent 8 [.ref scrId]) [] (embP 0 zer) (some (.int 1)) (emb M9)
  have z1 : Zi (1) (zer) := Zi_new Zi_zer (by decide)
  have z2 : Zi (84) (iniG (zer)) := (p_game z1).2
  have z3 : Zi (85) (iniG (zer)) := Zi_new z2 (by decide)
  have z4 : Zi (95) (iniR (iniG (zer))) := (p_ref z3).2
  refine p_new Zi_zer (by decide) rfl rfl dL_law_0 rfl ckL_7 isX5 inX5 (by decide) (by decide) (fun _ => ?_)
  refine x_dup_r dL_law_3 ?_
  refine p_callI (as := []) z1 okX5_init lkL_9 dL_law_4 rfl (p_game z1).1 (by omega) rfl (fun v hv => by cases hv) (Nat.le_of_ble_eq_true rfl) (by decide) (cat8 rfl) (by decide) (by decide) ?_
  refine x_astore_n dL_law_7 (by decide) rfl ?_
  refine p_new z2 (by decide) rfl rfl dL_law_8 rfl ckL_10 isX6 inX6 (by decide) (by decide) (fun _ => ?_)
  refine x_dup_r dL_law_11 ?_
  refine p_callI (as := []) z3 okX6_init lkL_12 dL_law_12 rfl (p_ref z3).1 (by omega) rfl (fun v hv => by cases hv) (Nat.le_of_ble_eq_true rfl) (by decide) (cat8 rfl) (by decide) (by decide) ?_
  refine x_astore_n dL_law_15 (by decide) rfl ?_
  refine x_iconstv (v := 0) dL_law_16 (by decide) ?_
  refine x_istore_n dL_law_17 (by decide) rfl ?_
  show X (some (L, xs)) 40 m_law 18 (lwLs 0) [] (embP NC ini) (some (.int 1)) (emb M9)
  rw [embP_emb ini_all]
  exact h9
