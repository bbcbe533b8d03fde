theorem hist4 {K : Nat} (hK : K ≤ 4) {h : Nat → Row} {a b c d : Row} : kup (kup (kup (kup K))) = 4 ∧ (hup (kup (kup (kup K))) (hup (kup (kup K)) (hup (kup K) (hup K h a) b) c) d) 0 = a ∧ (hup (kup (kup (kup K))) (hup (kup (kup K)) (hup (kup K) (hup K h a) b) c) d) 1 = b ∧ (hup (kup (kup (kup K))) (hup (kup (kup K)) (hup (kup K) (hup K h a) b) c) d) 2 = c ∧ (hup (kup (kup (kup K))) (hup (kup (kup K)) (hup (kup K) (hup K h a) b) c) d) 3 = d := by
  rcases (show K = 0 ∨ K = 1 ∨ K = 2 ∨ K = 3 ∨ K = 4 by omega) with rfl | rfl | rfl | rfl | rfl <;> exact ⟨rfl, rfl, rfl, rfl, rfl⟩
theorem asub {x y : Int32} : y = x + (y - x) := by grind
theorem bits_63 {w : Int32} (h : vp_in w 64) (hb : ∀ j, j < 6 → ¬ w >>> (nI j &&& 31) &&& 1 = 0) : w = 63 := by
  obtain ⟨x, hx, rfl⟩ := vp_in_of h (by decide)
  have h1 : ∀ x : Fin 64, (∀ j : Fin 6, ¬ nI x.val >>> (nI j.val &&& 31) &&& 1 = 0) → nI x.val = 63 := by decide +kernel
  exact h1 ⟨x, hx⟩ (fun j => hb j.val j.isLt)
section TR
variable {V : Row} {K : Nat} {h : Nat → Row} {M : Mem} {t : Nat} {x1 x2 x3 x4 x5 x6 : Int32}
theorem bw_inv (hV : WF V) : ∀ k, k ≤ 6 → (bwF V t k = (-4, -1) ∧ ∀ j, j < k → ¬ V (23 + 5 * t) >>> (nI j &&& 31) &&& 1 = 0) ∨ ∃ j, j < 6 ∧ (bwF V t k).1 = nI j
  | 0, _ => Or.inl ⟨rfl, fun j hj => absurd hj (by omega)⟩
  | k + 1, hk => by
    have ih := bw_inv hV k (by omega)
    show (bwS V t k (bwF V t k) = (-4, -1) ∧ _) ∨ ∃ j, j < 6 ∧ (bwS V t k (bwF V t k)).1 = nI j
    unfold bwS
    by_cases hb : V (23 + 5 * t) >>> (nI k &&& 31) &&& 1 = 0
    · rw [if_pos hb]
      right
      rcases ih with ⟨e, _⟩ | ⟨j, hj, e⟩
      · rw [e]
        have hp : (-1 : Int32) < mstV (upd V (23 + 5 * t) (V (23 + 5 * t) ||| 1 <<< (nI k &&& 31))) (cirN V) := by
          rw [mst_eq]
          refine Int32.lt_of_lt_of_le (by decide) (nI_pos' ?_)
          have h1 := bcn_le (V := upd V (23 + 5 * t) (V (23 + 5 * t) ||| 1 <<< (nI k &&& 31))) (L := cirN V)
          rw [nT_upd (by omega)] at h1
          have := (WF_n hV).1
          omega
        rw [if_pos hp]
        exact ⟨k, by omega, rfl⟩
      · by_cases hc : (bwF V t k).2 < mstV (upd V (23 + 5 * t) (V (23 + 5 * t) ||| 1 <<< (nI k &&& 31))) (cirN V)
        · rw [if_pos hc]
          exact ⟨k, by omega, rfl⟩
        · rw [if_neg hc]
          exact ⟨j, hj, e⟩
    · rw [if_neg hb]
      rcases ih with ⟨e, h1⟩ | q
      · left
        refine ⟨e, fun j hj => ?_⟩
        by_cases hjk : j = k
        · subst hjk; exact hb
        · exact h1 j (by omega)
      · exact Or.inr q
theorem bw_63 (hV : WF V) (ht : t < nT V) (hb : (bwF V t 6).1 = -4) : V (23 + 5 * t) = 63 := by
  rcases bw_inv (t := t) hV 6 (Nat.le_refl _) with ⟨_, h1⟩ | ⟨j, hj, e⟩
  · exact bits_63 (hV.2.1 t ht).2.1 h1
  · rw [hb] at e
    exact absurd e.symm (m4_nI (by omega))
theorem tr_loop (ht : t < nT V) : ∀ (m k : Nat) (h : Nat → Row) (M : Mem), k + m = 6 → St V 0 h M → YQ none 23 mL_tries 244 [some (.ref 0), some (.int x1), some (.int x2), some (.int x3), some (.int x4), some (.int x5), some (.int x6), some (.int 1), some (.int (nI (nT V))), some (.int (nI t)), some (.int (bwF V t 6).1), some (.int (V (23 + 5 * t))), some (.int (bwF V t k).2), some (.int (bwF V t k).1), some (.int (nI k))] [] M (some (.int 1)) (fun M => ∃ h', St V 0 h' M) := by
  intro m
  induction m with
  | zero =>
    intro k h M hkm hS
    have e : k = 6 := by omega
    subst e
    refine q_iload dL_tries_244 rfl ?_
    refine q_bipushv (v := 6) dL_tries_246 (by decide) ?_
    refine q_icmp_ge_t 357 dL_tries_248 (by decide) (by decide) ?_
    refine q_iload dL_tries_357 rfl ?_
    refine q_if_eq_f 373 dL_tries_359 (by decide) (by decide) ?_
    refine q_iload dL_tries_362 rfl ?_
    refine q_iload dL_tries_364 rfl ?_
    refine q_icmp_ne_f 373 dL_tries_366 (by decide) rfl ?_
    refine q_iconstv (v := 1) dL_tries_369 (by decide) ?_
    refine q_goto 374 dL_tries_370 (by decide) ?_
    exact q_ret dL_tries_374 rfl (rfl) (rfl) ⟨h, hS⟩
  | succ m ih =>
    intro k h M hkm hS
    have hk : k < 6 := by omega
    have hW := hS.W
    have hG := hS.G
    have hcir : cirN (upd V (23 + 5 * t) (V (23 + 5 * t) ||| 1 <<< (nI k &&& 31))) = cirN V := by
      unfold cirN
      rw [pk_un (by omega)]
    have e0 : ¬ V (23 + 5 * t) >>> (nI k &&& 31) &&& 1 = 0 → bwF V t (k + 1) = bwF V t k := fun c => by
      show bwS V t k (bwF V t k) = _
      unfold bwS
      rw [if_neg c]
    have e1 : V (23 + 5 * t) >>> (nI k &&& 31) &&& 1 = 0 → mstV (upd V (23 + 5 * t) (V (23 + 5 * t) ||| 1 <<< (nI k &&& 31))) (cirN V) ≤ (bwF V t k).2 → bwF V t (k + 1) = bwF V t k := fun c d => by
      show bwS V t k (bwF V t k) = _
      unfold bwS
      rw [if_pos c, if_neg (Int32.not_lt.mpr d)]
    have e2 : V (23 + 5 * t) >>> (nI k &&& 31) &&& 1 = 0 → ¬ mstV (upd V (23 + 5 * t) (V (23 + 5 * t) ||| 1 <<< (nI k &&& 31))) (cirN V) ≤ (bwF V t k).2 → bwF V t (k + 1) = (nI k, mstV (upd V (23 + 5 * t) (V (23 + 5 * t) ||| 1 <<< (nI k &&& 31))) (cirN V)) := fun c d => by
      show bwS V t k (bwF V t k) = _
      unfold bwS
      rw [if_pos c, if_pos (Int32.not_le.mp d)]
    refine q_iload dL_tries_244 rfl ?_
    refine q_bipushv (v := 6) dL_tries_246 (by decide) ?_
    refine q_icmp_ge_f 357 dL_tries_248 (by decide) (fun q => absurd ((nI_leI (a := 6) (b := k) (by decide) (by omega)).mp q) (by omega)) ?_
    refine q_iload dL_tries_251 rfl ?_
    refine q_if_eq_f 357 dL_tries_253 (by decide) (by decide) ?_
    refine q_iload dL_tries_256 rfl ?_
    refine q_iload dL_tries_258 rfl ?_
    refine q_ishr dL_tries_260 ?_
    refine q_iconstv (v := 1) dL_tries_261 (by decide) ?_
    refine q_iand dL_tries_262 ?_
    refine q_if_ne 351 dL_tries_263 (by decide) (fun c_263 => ?_) (fun c_263 => ?_)
    · refine q_iincv (v := 1) dL_tries_351 rfl (by decide) rfl (by decide) ?_
      rw [nI_1]
      refine q_goto 244 dL_tries_354 (by decide) ?_
      rw [← e0 c_263]
      exact ih (k + 1) h M (by omega) hS
    · refine q_aload_n dL_tries_266 rfl ?_
      refine q_iload dL_tries_267 rfl ?_
      refine q_iload dL_tries_269 rfl ?_
      refine q_iconstv (v := 1) dL_tries_271 (by decide) ?_
      refine q_iload dL_tries_272 rfl ?_
      refine q_ishl dL_tries_274 ?_
      refine q_ior dL_tries_275 ?_
      refine q_callV (as := [_, _]) okX5_want lkL_30 dL_tries_276 rfl (by decide) rfl (q_want1 hS ht (or_in (hW.2.1 t ht).2.1 hk)) (by omega) rfl (by simp [Value.category]) (Nat.le_of_ble_eq_true rfl) rfl rfl (cat8 rfl) (fun M hS => ?_)
      refine q_iload dL_tries_279 rfl ?_
      refine q_icmp_ne_f 288 dL_tries_281 (by decide) rfl ?_
      refine q_iconstv (v := 1) dL_tries_284 (by decide) ?_
      refine q_goto 289 dL_tries_285 (by decide) ?_
      refine q_istore dL_tries_289 (by decide) rfl ?_
      refine q_aload_n dL_tries_291 rfl ?_
      refine q_iconstv (v := 0) dL_tries_292 (by decide) ?_
      refine q_callV (as := [_]) okX5_most lkL_49 dL_tries_293 rfl (by decide) rfl (q_most_0 hS) (by omega) rfl (by simp [Value.category]) (Nat.le_of_ble_eq_true rfl) rfl rfl (cat8 rfl) (fun M hS => ?_)
      rw [hcir]
      refine q_iload dL_tries_296 rfl ?_
      refine q_icmp_le 306 dL_tries_298 (by decide) (fun c_298 => ?_) (fun c_298 => ?_)
      · refine q_iload dL_tries_306 rfl ?_
        refine q_istore dL_tries_308 (by decide) rfl ?_
        refine q_aload_n dL_tries_310 rfl ?_
        refine q_iconstv (v := 0) dL_tries_311 (by decide) ?_
        refine q_callV (as := [_]) okX5_most lkL_49 dL_tries_312 rfl (by decide) rfl (q_most_0 hS) (by omega) rfl (by simp [Value.category]) (Nat.le_of_ble_eq_true rfl) rfl rfl (cat8 rfl) (fun M hS => ?_)
        rw [hcir]
        refine q_iload dL_tries_315 rfl ?_
        refine q_icmp_le_t 328 dL_tries_317 (by decide) c_298 ?_
        refine q_iload dL_tries_328 rfl ?_
        refine q_istore dL_tries_330 (by decide) rfl ?_
        refine q_iload dL_tries_332 rfl ?_
        refine q_if_eq_f 348 dL_tries_334 (by decide) (by decide) ?_
        refine q_aload_n dL_tries_337 rfl ?_
        refine q_callV0 okX5_undo lkL_86 dL_tries_338 (by decide) rfl (q_undo1 (k := 0) hS hG) (by omega) (Nat.le_of_ble_eq_true rfl) rfl rfl (cat8 rfl) (fun M hS => ?_)
        refine q_if_ne_f 348 dL_tries_341 (by decide) rfl ?_
        refine q_iconstv (v := 1) dL_tries_344 (by decide) ?_
        refine q_goto 349 dL_tries_345 (by decide) ?_
        refine q_istore dL_tries_349 (by decide) rfl ?_
        refine q_iincv (v := 1) dL_tries_351 rfl (by decide) rfl (by decide) ?_
        rw [nI_1]
        refine q_goto 244 dL_tries_354 (by decide) ?_
        rw [← e1 c_263 c_298]
        exact ih (k + 1) (hup 0 h V) M (by omega) hS
      · refine q_iload dL_tries_301 rfl ?_
        refine q_goto 308 dL_tries_303 (by decide) ?_
        refine q_istore dL_tries_308 (by decide) rfl ?_
        refine q_aload_n dL_tries_310 rfl ?_
        refine q_iconstv (v := 0) dL_tries_311 (by decide) ?_
        refine q_callV (as := [_]) okX5_most lkL_49 dL_tries_312 rfl (by decide) rfl (q_most_0 hS) (by omega) rfl (by simp [Value.category]) (Nat.le_of_ble_eq_true rfl) rfl rfl (cat8 rfl) (fun M hS => ?_)
        rw [hcir]
        refine q_iload dL_tries_315 rfl ?_
        refine q_icmp_le_f 328 dL_tries_317 (by decide) c_298 ?_
        refine q_aload_n dL_tries_320 rfl ?_
        refine q_iconstv (v := 0) dL_tries_321 (by decide) ?_
        refine q_callV (as := [_]) okX5_most lkL_49 dL_tries_322 rfl (by decide) rfl (q_most_0 hS) (by omega) rfl (by simp [Value.category]) (Nat.le_of_ble_eq_true rfl) rfl rfl (cat8 rfl) (fun M hS => ?_)
        rw [hcir]
        refine q_goto 330 dL_tries_325 (by decide) ?_
        refine q_istore dL_tries_330 (by decide) rfl ?_
        refine q_iload dL_tries_332 rfl ?_
        refine q_if_eq_f 348 dL_tries_334 (by decide) (by decide) ?_
        refine q_aload_n dL_tries_337 rfl ?_
        refine q_callV0 okX5_undo lkL_86 dL_tries_338 (by decide) rfl (q_undo1 (k := 0) hS hG) (by omega) (Nat.le_of_ble_eq_true rfl) rfl rfl (cat8 rfl) (fun M hS => ?_)
        refine q_if_ne_f 348 dL_tries_341 (by decide) rfl ?_
        refine q_iconstv (v := 1) dL_tries_344 (by decide) ?_
        refine q_goto 349 dL_tries_345 (by decide) ?_
        refine q_istore dL_tries_349 (by decide) rfl ?_
        refine q_iincv (v := 1) dL_tries_351 rfl (by decide) rfl (by decide) ?_
        rw [nI_1]
        refine q_goto 244 dL_tries_354 (by decide) ?_
        refine Eq.mp ?_ (ih (k + 1) (hup 0 h V) M (by omega) hS)
        rw [e2 c_263 c_298]
        rfl
theorem tr_eq (hS : St V 0 h M) : YQ none 23 mL_tries 164 [some (.ref 0), some (.int x1), some (.int x2), some (.int x3), some (.int x4), some (.int x5), some (.int x6), some (.int 1), some (.int (nI (nT V))), some (.int (nI (nT V))), none, none, none, none, none] [] M (some (.int 1)) (fun M => ∃ h', St V 0 h' M) := by
  skip
  refine q_aload_n dL_tries_164 rfl ?_
  refine q_iload dL_tries_165 rfl ?_
  refine q_callV (as := [_]) okX5_bestWant lkL_89 dL_tries_167 rfl (by decide) rfl (q_bestWant0 hS) (by omega) rfl (by simp [Value.category]) (Nat.le_of_ble_eq_true rfl) rfl rfl (cat8 rfl) (fun M hS => ?_)
  refine q_istore dL_tries_170 (by decide) rfl ?_
  refine q_iload dL_tries_172 rfl ?_
  refine q_iload dL_tries_174 rfl ?_
  refine q_icmp_eq_t 186 dL_tries_176 (by decide) rfl ?_
  refine q_iload dL_tries_186 rfl ?_
  refine q_if_eq_f 223 dL_tries_188 (by decide) (by decide) ?_
  refine q_iload dL_tries_191 rfl ?_
  refine q_iload dL_tries_193 rfl ?_
  refine q_icmp_ne_f 207 dL_tries_195 (by decide) rfl ?_
  refine q_iload dL_tries_198 rfl ?_
  refine q_iconstv (v := -1) dL_tries_200 (by decide) ?_
  refine q_icmp_ne_f 223 dL_tries_201 (by decide) (by decide) ?_
  refine q_goto 219 dL_tries_204 (by decide) ?_
  refine q_iconstv (v := 1) dL_tries_219 (by decide) ?_
  refine q_goto 224 dL_tries_220 (by decide) ?_
  exact q_ret dL_tries_224 rfl (rfl) (rfl) ⟨h, hS⟩
theorem tr_lt (hS : St V 0 h M) (ht : t < nT V) : YQ none 23 mL_tries 164 [some (.ref 0), some (.int x1), some (.int x2), some (.int x3), some (.int x4), some (.int x5), some (.int x6), some (.int 1), some (.int (nI (nT V))), some (.int (nI t)), none, none, none, none, none] [] M (some (.int 1)) (fun M => ∃ h', St V 0 h' M) := by
  have h7 := n_7 hS.W
  have hne : ¬ nI t = nI (nT V) := fun q => absurd ((nI_eq (a := t) (b := nT V) (by omega) (by omega)).mp q) (by omega)
  skip
  refine q_aload_n dL_tries_164 rfl ?_
  refine q_iload dL_tries_165 rfl ?_
  refine q_callV (as := [_]) okX5_bestWant lkL_89 dL_tries_167 rfl (by decide) rfl (q_bestWant1 hS ht) (by omega) rfl (by simp [Value.category]) (Nat.le_of_ble_eq_true rfl) rfl rfl (cat8 rfl) (fun M hS => ?_)
  refine q_istore dL_tries_170 (by decide) rfl ?_
  refine q_iload dL_tries_172 rfl ?_
  refine q_iload dL_tries_174 rfl ?_
  refine q_icmp_eq_f 186 dL_tries_176 (by decide) hne ?_
  refine q_iload dL_tries_179 rfl ?_
  refine q_bipushv (v := -4) dL_tries_181 (by decide) ?_
  refine q_icmp_ne 225 dL_tries_183 (by decide) (fun c_183 => ?_) (fun c_183 => ?_)
  · refine q_aload_n dL_tries_225 rfl ?_
    refine q_iload dL_tries_226 rfl ?_
    refine q_iconstv (v := 1) dL_tries_228 (by decide) ?_
    refine q_callV (as := [_, _]) okX5_trader lkL_24 dL_tries_229 rfl (by decide) rfl (q_trader_1 hS ht) (by omega) rfl (by simp [Value.category]) (Nat.le_of_ble_eq_true rfl) rfl rfl (cat8 rfl) (fun M hS => ?_)
    refine q_istore dL_tries_232 (by decide) rfl ?_
    refine q_iconstv (v := -1) dL_tries_234 (by decide) ?_
    refine q_istore dL_tries_235 (by decide) rfl ?_
    refine q_bipushv (v := -4) dL_tries_237 (by decide) ?_
    refine q_istore dL_tries_239 (by decide) rfl ?_
    refine q_iconstv (v := 0) dL_tries_241 (by decide) ?_
    refine q_istore dL_tries_242 (by decide) rfl ?_
    exact tr_loop ht 6 0 h M (by omega) hS
  · refine q_iload dL_tries_186 rfl ?_
    refine q_if_eq_f 223 dL_tries_188 (by decide) (by decide) ?_
    refine q_iload dL_tries_191 rfl ?_
    refine q_iload dL_tries_193 rfl ?_
    refine q_icmp_ne_t 207 dL_tries_195 (by decide) hne ?_
    refine q_aload_n dL_tries_207 rfl ?_
    refine q_iload dL_tries_208 rfl ?_
    refine q_iconstv (v := 1) dL_tries_210 (by decide) ?_
    refine q_callV (as := [_, _]) okX5_trader lkL_24 dL_tries_211 rfl (by decide) rfl (q_trader_1 hS ht) (by omega) rfl (by simp [Value.category]) (Nat.le_of_ble_eq_true rfl) rfl rfl (cat8 rfl) (fun M hS => ?_)
    refine q_bipushv (v := 63) dL_tries_214 (by decide) ?_
    refine q_icmp_ne_f 223 dL_tries_216 (by decide) (bw_63 hS.W ht c_183) ?_
    refine q_iconstv (v := 1) dL_tries_219 (by decide) ?_
    refine q_goto 224 dL_tries_220 (by decide) ?_
    exact q_ret dL_tries_224 rfl (rfl) (rfl) ⟨h, hS⟩
theorem q_tries (hS : St V K h M) : YQ none 23 mL_tries 0 (lent 15 [.ref 0, .int x1]) [] M (some (.int 1)) (fun M => ∃ h', St V 0 h' M) := by
  have h7 := n_7 hS.W
  have hG0 := hS.G
  have hG1 := Good_callW hG0
  have hG2 := Good_pass hG1
  have hG3 := Good_callW hG2
  obtain ⟨k4, a0, a1, a2, a3⟩ := hist4 (K := K) hS.1.2.1 (h := h) (a := V) (b := callW V) (c := passV (callW V)) (d := callW (passV (callW V)))
  skip
  refine q_aload_n dL_tries_0 rfl ?_
  refine q_iconstv (v := 3) dL_tries_1 (by decide) ?_
  refine q_callV (as := [_]) okX5_count lkL_9 dL_tries_2 rfl (by decide) rfl (q_count_3 hS) (by omega) rfl (by simp [Value.category]) (Nat.le_of_ble_eq_true rfl) rfl rfl (cat8 rfl) (fun M hS => ?_)
  refine q_istore_n dL_tries_5 (by decide) rfl ?_
  refine q_aload_n dL_tries_6 rfl ?_
  refine q_bipushv (v := 6) dL_tries_7 (by decide) ?_
  refine q_callV (as := [_]) okX5_count lkL_9 dL_tries_9 rfl (by decide) rfl (q_count_6 hS) (by omega) rfl (by simp [Value.category]) (Nat.le_of_ble_eq_true rfl) rfl rfl (cat8 rfl) (fun M hS => ?_)
  refine q_istore_n dL_tries_12 (by decide) rfl ?_
  refine q_aload_n dL_tries_13 rfl ?_
  refine q_iconstv (v := 2) dL_tries_14 (by decide) ?_
  refine q_iconstv (v := 0) dL_tries_15 (by decide) ?_
  refine q_callV (as := [_, _]) okX5_ifDays lkL_83 dL_tries_16 rfl (by decide) rfl (q_ifDays_0 hS) (by omega) rfl (by simp [Value.category]) (Nat.le_of_ble_eq_true rfl) rfl rfl (cat8 rfl) (fun M hS => ?_)
  refine q_istore dL_tries_19 (by decide) rfl ?_
  refine q_aload_n dL_tries_21 rfl ?_
  refine q_iconstv (v := 2) dL_tries_22 (by decide) ?_
  refine q_iconstv (v := 1) dL_tries_23 (by decide) ?_
  refine q_callV (as := [_, _]) okX5_ifDays lkL_83 dL_tries_24 rfl (by decide) rfl (q_ifDays_1 hS) (by omega) rfl (by simp [Value.category]) (Nat.le_of_ble_eq_true rfl) rfl rfl (cat8 rfl) (fun M hS => ?_)
  refine q_istore dL_tries_27 (by decide) rfl ?_
  refine q_aload_n dL_tries_29 rfl ?_
  refine q_iconstv (v := 2) dL_tries_30 (by decide) ?_
  refine q_iconstv (v := 2) dL_tries_31 (by decide) ?_
  refine q_callV (as := [_, _]) okX5_ifDays lkL_83 dL_tries_32 rfl (by decide) rfl (q_ifDays_2 hS) (by omega) rfl (by simp [Value.category]) (Nat.le_of_ble_eq_true rfl) rfl rfl (cat8 rfl) (fun M hS => ?_)
  refine q_istore dL_tries_35 (by decide) rfl ?_
  refine q_aload_n dL_tries_37 rfl ?_
  refine q_callV0 okX5_call lkL_52 dL_tries_38 (by decide) rfl (q_call hS) (by omega) (Nat.le_of_ble_eq_true rfl) rfl rfl (cat8 rfl) (fun M hS => ?_)
  refine q_if_lt_f 144 dL_tries_41 (by decide) (Int32.not_lt.mpr (mst_pos hG0.1)) ?_
  refine q_aload_n dL_tries_44 rfl ?_
  refine q_callV0 okX5_day lkL_56 dL_tries_45 (by decide) rfl (q_day hS) (by omega) (Nat.le_of_ble_eq_true rfl) rfl rfl (cat8 rfl) (fun M hS => ?_)
  refine q_if_lt_f 144 dL_tries_48 (by decide) (Int32.not_lt.mpr (thr_pos hG1.1)) ?_
  refine q_aload_n dL_tries_51 rfl ?_
  refine q_callV0 okX5_call lkL_52 dL_tries_52 (by decide) rfl (q_call hS) (by omega) (Nat.le_of_ble_eq_true rfl) rfl rfl (cat8 rfl) (fun M hS => ?_)
  refine q_if_lt_f 144 dL_tries_55 (by decide) (Int32.not_lt.mpr (mst_pos hG2.1)) ?_
  refine q_aload_n dL_tries_58 rfl ?_
  refine q_callV0 okX5_day lkL_56 dL_tries_59 (by decide) rfl (q_day hS) (by omega) (Nat.le_of_ble_eq_true rfl) rfl rfl (cat8 rfl) (fun M hS => ?_)
  rw [k4] at hS
  generalize hup (kup (kup (kup K))) (hup (kup (kup K)) (hup (kup K) (hup K h V) (callW V)) (passV (callW V))) (callW (passV (callW V))) = H at *
  have g3 : Good (H 3) := by rw [a3]; exact hG3
  have g2 : Good (H 2) := by rw [a2]; exact hG2
  have g1 : Good (H 1) := by rw [a1]; exact hG1
  have g0 : Good (H 0) := by rw [a0]; exact hG0
  refine q_if_lt_f 144 dL_tries_62 (by decide) (Int32.not_lt.mpr (thr_pos hG3.1)) ?_
  refine q_aload_n dL_tries_65 rfl ?_
  refine q_iconstv (v := 3) dL_tries_66 (by decide) ?_
  refine q_callV (as := [_]) okX5_count lkL_9 dL_tries_67 rfl (by decide) rfl (q_count_3 hS) (by omega) rfl (by simp [Value.category]) (Nat.le_of_ble_eq_true rfl) rfl rfl (cat8 rfl) (fun M hS => ?_)
  refine q_iload_n dL_tries_70 rfl ?_
  refine q_iload dL_tries_71 rfl ?_
  refine q_iadd dL_tries_73 ?_
  refine q_icmp_ne_f 144 dL_tries_74 (by decide) (asub (x := V 2)) ?_
  refine q_aload_n dL_tries_77 rfl ?_
  refine q_bipushv (v := 6) dL_tries_78 (by decide) ?_
  refine q_callV (as := [_]) okX5_count lkL_9 dL_tries_80 rfl (by decide) rfl (q_count_6 hS) (by omega) rfl (by simp [Value.category]) (Nat.le_of_ble_eq_true rfl) rfl rfl (cat8 rfl) (fun M hS => ?_)
  refine q_iload_n dL_tries_83 rfl ?_
  refine q_iload dL_tries_84 rfl ?_
  refine q_iadd dL_tries_86 ?_
  refine q_icmp_ne_f 144 dL_tries_87 (by decide) (asub (x := V 3)) ?_
  refine q_aload_n dL_tries_90 rfl ?_
  refine q_iconstv (v := 2) dL_tries_91 (by decide) ?_
  refine q_callV (as := [_]) okX5_count lkL_9 dL_tries_92 rfl (by decide) rfl (q_count_2 hS) (by omega) rfl (by simp [Value.category]) (Nat.le_of_ble_eq_true rfl) rfl rfl (cat8 rfl) (fun M hS => ?_)
  refine q_iload dL_tries_95 rfl ?_
  refine q_icmp_ne_f 144 dL_tries_97 (by decide) rfl ?_
  refine q_aload_n dL_tries_100 rfl ?_
  refine q_callV0 okX5_undo lkL_86 dL_tries_101 (by decide) rfl (q_undo1 (k := 3) hS g3) (by omega) (Nat.le_of_ble_eq_true rfl) rfl rfl (cat8 rfl) (fun M hS => ?_)
  refine q_iconstv (v := 3) dL_tries_104 (by decide) ?_
  refine q_icmp_ne_f 144 dL_tries_105 (by decide) (by decide) ?_
  refine q_aload_n dL_tries_108 rfl ?_
  refine q_callV0 okX5_undo lkL_86 dL_tries_109 (by decide) rfl (q_undo1 (k := 2) hS g2) (by omega) (Nat.le_of_ble_eq_true rfl) rfl rfl (cat8 rfl) (fun M hS => ?_)
  refine q_iconstv (v := 2) dL_tries_112 (by decide) ?_
  refine q_icmp_ne_f 144 dL_tries_113 (by decide) (by decide) ?_
  refine q_aload_n dL_tries_116 rfl ?_
  refine q_callV0 okX5_undo lkL_86 dL_tries_117 (by decide) rfl (q_undo1 (k := 1) hS g1) (by omega) (Nat.le_of_ble_eq_true rfl) rfl rfl (cat8 rfl) (fun M hS => ?_)
  refine q_iconstv (v := 1) dL_tries_120 (by decide) ?_
  refine q_icmp_ne_f 144 dL_tries_121 (by decide) (by decide) ?_
  refine q_aload_n dL_tries_124 rfl ?_
  refine q_callV0 okX5_undo lkL_86 dL_tries_125 (by decide) rfl (q_undo1 (k := 0) hS g0) (by omega) (Nat.le_of_ble_eq_true rfl) rfl rfl (cat8 rfl) (fun M hS => ?_)
  rw [a0] at hS
  refine q_if_ne_f 144 dL_tries_128 (by decide) (by decide) ?_
  refine q_aload_n dL_tries_131 rfl ?_
  refine q_iconstv (v := 3) dL_tries_132 (by decide) ?_
  refine q_callV (as := [_]) okX5_count lkL_9 dL_tries_133 rfl (by decide) rfl (q_count_3 hS) (by omega) rfl (by simp [Value.category]) (Nat.le_of_ble_eq_true rfl) rfl rfl (cat8 rfl) (fun M hS => ?_)
  refine q_iload_n dL_tries_136 rfl ?_
  refine q_icmp_ne_f 144 dL_tries_137 (by decide) rfl ?_
  refine q_iconstv (v := 1) dL_tries_140 (by decide) ?_
  refine q_goto 145 dL_tries_141 (by decide) ?_
  refine q_istore dL_tries_145 (by decide) rfl ?_
  refine q_aload_n dL_tries_147 rfl ?_
  refine q_iconstv (v := 1) dL_tries_148 (by decide) ?_
  refine q_callV (as := [_]) okX5_count lkL_9 dL_tries_149 rfl (by decide) rfl (q_count_1 hS) (by omega) rfl (by simp [Value.category]) (Nat.le_of_ble_eq_true rfl) rfl rfl (cat8 rfl) (fun M hS => ?_)
  refine q_istore dL_tries_152 (by decide) rfl ?_
  refine q_iload_n dL_tries_154 rfl ?_
  refine q_iload dL_tries_155 rfl ?_
  refine q_iconstv (v := 1) dL_tries_157 (by decide) ?_
  refine q_iadd dL_tries_158 ?_
  rw [nI_1]
  refine q_callS (as := [_, _]) okL_low lkL_15 dL_tries_159 rfl (q_low hS (n := nT V + 1) (by omega) (by omega)) (by omega) rfl (by simp [Value.category]) (Nat.le_of_ble_eq_true rfl) (cat8 rfl) (fun M hS => ?_)
  refine q_istore dL_tries_162 (by decide) rfl ?_
  have htl := lowN_lt (v := x1) (n := nT V + 1) (by omega)
  generalize lowN x1 (nT V + 1) = t at *
  rcases Nat.lt_or_ge t (nT V) with ht | ht
  · exact tr_lt hS ht
  · have e : t = nT V := by omega
    rw [e]
    exact tr_eq hS
end TR
