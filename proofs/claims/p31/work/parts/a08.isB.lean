theorem ib_drop3 {n t : Nat} {x2 x3 x4 : Int32} {m0 m1 m2 : Option Value} {pc : Nat} {st : List Value} {M : Mem} {r : Option Value} {Q : Mem → Prop} (hh : YQ none 21 mL_isBest pc [some (.ref 0), some (.int (nI n)), some (.int x2), some (.int x3), some (.int x4), some (.int 1), some (.int (nI t)), none, none, none] st M r Q) : YQ none 21 mL_isBest pc [some (.ref 0), some (.int (nI n)), some (.int x2), some (.int x3), some (.int x4), some (.int 1), some (.int (nI t)), m0, m1, m2] st M r Q := YQ.lsw (fun j v hj => by
  match j, hj with
  | 0, hj => exact hj
  | 1, hj => exact hj
  | 2, hj => exact hj
  | 3, hj => exact hj
  | 4, hj => exact hj
  | 5, hj => exact hj
  | 6, hj => exact hj
  | 7, hj => cases hj
  | 8, hj => cases hj
  | 9, hj => cases hj
  | j + 10, hj => cases hj) hh
section IB
variable {V : Row} {K : Nat} {h : Nat → Row} {M : Mem} {Q : Mem → Prop} {x2 x3 x4 : Int32}
theorem ib_chain {t g : Nat} (ht : t < nT V) : ∀ (fu x len : Nat) (M : Mem), retB (cirG V) t fu x = true → x < nT V → len + fu ≤ 8 → St V K h M → (∀ (M : Mem) (len' : Nat), len' + 1 ≤ len + fu → St V K h M → YQ none 21 mL_isBest 89 [some (.ref 0), some (.int (nI (nT V))), some (.int x2), some (.int x3), some (.int x4), some (.int 1), some (.int (nI t)), some (.int (nI g)), some (.int (nI len')), some (.int (nI t))] [] M (some (.int 1)) Q) → YQ none 21 mL_isBest 54 [some (.ref 0), some (.int (nI (nT V))), some (.int x2), some (.int x3), some (.int x4), some (.int 1), some (.int (nI t)), some (.int (nI g)), some (.int (nI len)), some (.int (nI x))] [] M (some (.int 1)) Q := by
  intro fu
  induction fu with
  | zero => intro x len M hr; rw [retB] at hr; cases hr
  | succ fu ih =>
    intro x len M hr hx hl hS hk
    have h7 := n_7 hS.W
    by_cases hxt : x = t
    · subst hxt
      refine q_iload dL_isBest_54 rfl ?_
      refine q_iload dL_isBest_56 rfl ?_
      refine q_icmp_eq_t 89 dL_isBest_58 (by decide) rfl ?_
      exact hk M len (by omega) hS
    cases hy : cirG V x with
    | none => rw [retB, if_neg hxt, hy] at hr; cases hr
    | some y =>
    have hyn : y < nT V := cirG_lt x y hx hy
    refine q_iload dL_isBest_54 rfl ?_
    refine q_iload dL_isBest_56 rfl ?_
    refine q_icmp_eq_f 89 dL_isBest_58 (by decide) (fun q => hxt ((nI_eq (a := x) (b := t) (by omega) (by omega)).mp q)) ?_
    refine q_iload dL_isBest_61 rfl ?_
    refine q_bipushv (v := 9) dL_isBest_63 (by decide) ?_
    refine q_icmp_ge_f 89 dL_isBest_65 (by decide) (fun q => absurd ((nI_leI (a := 9) (b := len) (by decide) (by omega)).mp q) (by omega)) ?_
    refine q_iload dL_isBest_68 rfl ?_
    refine q_if_lt_f 89 dL_isBest_70 (by decide) (nI_pos (by omega)) ?_
    refine q_iincv (v := 1) dL_isBest_73 rfl (by decide) rfl (by decide) ?_
    rw [nI_1]
    refine q_aload_n dL_isBest_76 rfl ?_
    refine q_iload dL_isBest_77 rfl ?_
    refine q_bipushv (v := 9) dL_isBest_79 (by decide) ?_
    refine q_callV (as := [_, _]) okX5_trader lkL_24 dL_isBest_81 rfl (by decide) rfl (q_trader_9 hS hx) (by omega) rfl (by simp [Value.category]) (Nat.le_of_ble_eq_true rfl) rfl rfl (cat8 rfl) (fun M hS => ?_)
    rw [show gI (-4) (cirG V x) = nI y by rw [hy]; rfl]
    refine q_istore dL_isBest_84 (by decide) rfl ?_
    refine q_goto 54 dL_isBest_86 (by decide) ?_
    exact ih y (len + 1) M (by rw [retB, if_neg hxt, hy] at hr; exact hr) hyn (by omega) hS (fun M len9 h9 hS => hk M len9 (by omega) hS)
theorem ib_loop1 : ∀ (k t : Nat) (M : Mem), t + k = nT V → St V K h M → (∀ M, St V K h M → YQ none 21 mL_isBest 151 [some (.ref 0), some (.int (nI (nT V))), some (.int (inM (cirG V) (nT V))), some (.int (gvA (cirG V) (nT V))), some (.int (nI (cnt (cirG V) (nT V)))), some (.int 1), some (.int (nI (nT V))), none, none, none] [] M (some (.int 1)) Q) → YQ none 21 mL_isBest 19 [some (.ref 0), some (.int (nI (nT V))), some (.int (inM (cirG V) t)), some (.int (gvA (cirG V) t)), some (.int (nI (cnt (cirG V) t))), some (.int 1), some (.int (nI t)), none, none, none] [] M (some (.int 1)) Q := by
  intro k
  induction k with
  | zero =>
    intro t M htk hS hk
    have h7 := n_7 hS.W
    have htn : t = nT V := by omega
    subst htn
    refine q_iload dL_isBest_19 rfl ?_
    refine q_iload_n dL_isBest_21 rfl ?_
    refine q_icmp_ge_t 151 dL_isBest_22 (by decide) (nI_le (Nat.le_refl _) (by omega)) ?_
    exact hk M hS
  | succ k ih =>
    intro t M htk hS hk
    have h7 := n_7 hS.W
    have hL := cir_ok hS.W
    have ht : t < nT V := by omega
    cases hg : cirG V t with
    | none =>
      refine q_iload dL_isBest_19 rfl ?_
      refine q_iload_n dL_isBest_21 rfl ?_
      refine q_icmp_ge_f 151 dL_isBest_22 (by decide) (fun q => absurd ((nI_leI (a := nT V) (b := t) (by omega) (by omega)).mp q) (by omega)) ?_
      refine q_iload dL_isBest_25 rfl ?_
      refine q_if_eq_f 151 dL_isBest_27 (by decide) (by decide) ?_
      refine q_aload_n dL_isBest_30 rfl ?_
      refine q_iload dL_isBest_31 rfl ?_
      refine q_bipushv (v := 9) dL_isBest_33 (by decide) ?_
      refine q_callV (as := [_, _]) okX5_trader lkL_24 dL_isBest_35 rfl (by decide) rfl (q_trader_9 hS ht) (by omega) rfl (by simp [Value.category]) (Nat.le_of_ble_eq_true rfl) rfl rfl (cat8 rfl) (fun M hS => ?_)
      rw [show gI (-4) (cirG V t) = -4 by rw [hg]; rfl]
      refine q_istore dL_isBest_38 (by decide) rfl ?_
      refine q_iload dL_isBest_40 rfl ?_
      refine q_bipushv (v := -4) dL_isBest_42 (by decide) ?_
      refine q_icmp_eq_t 145 dL_isBest_44 (by decide) rfl ?_
      refine q_iincv (v := 1) dL_isBest_145 rfl (by decide) rfl (by decide) ?_
      rw [nI_1]
      refine q_goto 19 dL_isBest_148 (by decide) ?_
      refine ib_drop3 ?_
      rw [← inM_n hg, ← gvA_n hg, ← cnt_n hg]
      exact ih (t + 1) M (by omega) hS hk
    | some g =>
      obtain ⟨v1, v2⟩ := bst_val (V := V) (L := cirN V)
      obtain ⟨hgn, g2, g3⟩ := v1 t g ht hg
      have hne : t ≠ g := by
        rintro rfl
        rw [can_irr] at g2
        cases g2
      have hfree : gvA (cirG V) t >>> (nI g &&& 31) &&& 1 = 0 := by
        rw [sh_half (by omega)]
        cases hb : bitI (gvA (cirG V) t) g with
        | false => rfl
        | true =>
          obtain ⟨j, hj, e⟩ := (bit_gvA (p := cirG V) (by omega) t (val_lt hS.W bst_val (Nat.le_of_lt ht))).mp hb
          have := v2 t j g ht (by omega) hg e
          omega
      refine q_iload dL_isBest_19 rfl ?_
      refine q_iload_n dL_isBest_21 rfl ?_
      refine q_icmp_ge_f 151 dL_isBest_22 (by decide) (fun q => absurd ((nI_leI (a := nT V) (b := t) (by omega) (by omega)).mp q) (by omega)) ?_
      refine q_iload dL_isBest_25 rfl ?_
      refine q_if_eq_f 151 dL_isBest_27 (by decide) (by decide) ?_
      refine q_aload_n dL_isBest_30 rfl ?_
      refine q_iload dL_isBest_31 rfl ?_
      refine q_bipushv (v := 9) dL_isBest_33 (by decide) ?_
      refine q_callV (as := [_, _]) okX5_trader lkL_24 dL_isBest_35 rfl (by decide) rfl (q_trader_9 hS ht) (by omega) rfl (by simp [Value.category]) (Nat.le_of_ble_eq_true rfl) rfl rfl (cat8 rfl) (fun M hS => ?_)
      rw [show gI (-4) (cirG V t) = nI g by rw [hg]; rfl]
      refine q_istore dL_isBest_38 (by decide) rfl ?_
      refine q_iload dL_isBest_40 rfl ?_
      refine q_bipushv (v := -4) dL_isBest_42 (by decide) ?_
      refine q_icmp_eq_f 145 dL_isBest_44 (by decide) (m4_nI (by omega)) ?_
      refine q_iconstv (v := 1) dL_isBest_47 (by decide) ?_
      refine q_istore dL_isBest_48 (by decide) rfl ?_
      refine q_iload dL_isBest_50 rfl ?_
      refine q_istore dL_isBest_52 (by decide) rfl ?_
      refine ib_chain ht (cirN V) g 1 M g3 hgn (by omega) hS (fun M len hl hS => ?_)
      refine q_aload_n dL_isBest_89 rfl ?_
      refine q_iload dL_isBest_90 rfl ?_
      refine q_iload dL_isBest_92 rfl ?_
      refine q_callV (as := [_, _]) okX5_can lkL_65 dL_isBest_94 rfl (by decide) rfl (q_can1 hS ht hgn hne) (by omega) rfl (by simp [Value.category]) (Nat.le_of_ble_eq_true rfl) rfl rfl (cat8 rfl) (fun M hS => ?_)
      refine q_iconstv (v := 1) dL_isBest_97 (by decide) ?_
      refine q_icmp_ne_f 125 dL_isBest_98 (by decide) (b2i_T g2) ?_
      refine q_iload_n dL_isBest_101 rfl ?_
      refine q_iload dL_isBest_102 rfl ?_
      refine q_ishr dL_isBest_104 ?_
      refine q_iconstv (v := 1) dL_isBest_105 (by decide) ?_
      refine q_iand dL_isBest_106 ?_
      refine q_if_ne_f 125 dL_isBest_107 (by decide) hfree ?_
      refine q_iload dL_isBest_110 rfl ?_
      refine q_aload_n dL_isBest_112 rfl ?_
      refine q_bipushv (v := 11) dL_isBest_113 (by decide) ?_
      refine q_callV (as := [_]) okX5_count lkL_9 dL_isBest_115 rfl (by decide) rfl (q_count_11 hS) (by omega) rfl (by simp [Value.category]) (Nat.le_of_ble_eq_true rfl) rfl rfl (cat8 rfl) (fun M hS => ?_)
      refine q_icmp_gt_f 125 dL_isBest_118 (by decide) (fun q => absurd ((nI_ltI (a := cirN V) (b := len) (by omega) (by omega)).mp q) (by omega)) ?_
      refine q_iconstv (v := 1) dL_isBest_121 (by decide) ?_
      refine q_goto 126 dL_isBest_122 (by decide) ?_
      refine q_istore dL_isBest_126 (by decide) rfl ?_
      refine q_iload_n dL_isBest_128 rfl ?_
      refine q_iconstv (v := 1) dL_isBest_129 (by decide) ?_
      refine q_iload dL_isBest_130 rfl ?_
      refine q_ishl dL_isBest_132 ?_
      refine q_ior dL_isBest_133 ?_
      refine q_istore_n dL_isBest_134 (by decide) rfl ?_
      refine q_iload_n dL_isBest_135 rfl ?_
      refine q_iconstv (v := 1) dL_isBest_136 (by decide) ?_
      refine q_iload dL_isBest_137 rfl ?_
      refine q_ishl dL_isBest_139 ?_
      refine q_ior dL_isBest_140 ?_
      refine q_istore_n dL_isBest_141 (by decide) rfl ?_
      refine q_iincv (v := 1) dL_isBest_142 rfl (by decide) rfl (by decide) ?_
      rw [nI_1]
      refine q_iincv (v := 1) dL_isBest_145 rfl (by decide) rfl (by decide) ?_
      rw [nI_1]
      refine q_goto 19 dL_isBest_148 (by decide) ?_
      refine ib_drop3 ?_
      rw [← inM_s hg, ← gvA_s hg, ← cnt_s hg]
      exact ih (t + 1) M (by omega) hS hk
theorem ib_in {t : Nat} (hV : WF V) (ht : t < nT V) (h : ¬ inM (cirG V) (nT V) >>> (nI t &&& 31) &&& 1 = 1) : cirG V t = none := by
  have h7 := n_7 hV
  have h0 := (and1 _).resolve_right h
  rw [sh_half (by omega), bit_inM (by omega) (by omega), decide_eq_true ht, Bool.true_and] at h0
  cases hg : cirG V t with
  | none => rfl
  | some g => rw [hg] at h0; cases h0
theorem ib_inner {t : Nat} (ht : t < nT V) (hk : ∀ M, St V K h M → YQ none 21 mL_isBest 235 [some (.ref 0), some (.int (nI (nT V))), some (.int (inM (cirG V) (nT V))), some (.int x3), some (.int x4), some (.int 1), some (.int (nI t)), none, none, none] [] M (some (.int 1)) Q) : ∀ (m k : Nat) (M : Mem), k + m = t → St V K h M → YQ none 21 mL_isBest 168 [some (.ref 0), some (.int (nI (nT V))), some (.int (inM (cirG V) (nT V))), some (.int x3), some (.int x4), some (.int 1), some (.int (nI t)), some (.int (nI k)), none, none] [] M (some (.int 1)) Q := by
  intro m
  induction m with
  | zero =>
    intro k M hkt hS
    have h7 := n_7 hS.W
    have e : k = t := by omega
    subst e
    refine q_iload dL_isBest_168 rfl ?_
    refine q_iload dL_isBest_170 rfl ?_
    refine q_icmp_ge_t 235 dL_isBest_172 (by decide) (nI_le (Nat.le_refl _) (by omega)) ?_
    exact ib_drop3 (hk M hS)
  | succ m ih =>
    intro k M hkt hS
    have h7 := n_7 hS.W
    have hL := cir_ok hS.W
    have hkn : k < nT V := by omega
    have hW := hS.W
    have hno : ¬ inM (cirG V) (nT V) >>> (nI t &&& 31) &&& 1 = 1 → ¬ inM (cirG V) (nT V) >>> (nI k &&& 31) &&& 1 = 1 → ¬ b2i (canV V t k) = 0 → b2i (canV V k t) = 0 := fun a b c => by
      rw [b2i_z]
      cases hq : canV V k t with
      | false => rfl
      | true => exact (no_two hL.2.1 ht (by omega) (ib_in hW ht a) (ib_in hW hkn b) (b2i_nz c) hq).elim
    have hnext : ∀ M, St V K h M → YQ none 21 mL_isBest 222 [some (.ref 0), some (.int (nI (nT V))), some (.int (inM (cirG V) (nT V))), some (.int x3), some (.int x4), some (.int 1), some (.int (nI t)), some (.int (nI k)), none, none] [] M (some (.int 1)) Q := fun M hS => by
      skip
      refine q_iconstv (v := 1) dL_isBest_222 (by decide) ?_
      refine q_goto 227 dL_isBest_223 (by decide) ?_
      refine q_istore dL_isBest_227 (by decide) rfl ?_
      refine q_iincv (v := 1) dL_isBest_229 rfl (by decide) rfl (by decide) ?_
      rw [nI_1]
      refine q_goto 168 dL_isBest_232 (by decide) ?_
      exact ih (k + 1) M (by omega) hS
    refine q_iload dL_isBest_168 rfl ?_
    refine q_iload dL_isBest_170 rfl ?_
    refine q_icmp_ge_f 235 dL_isBest_172 (by decide) (fun q => absurd ((nI_leI (a := t) (b := k) (by omega) (by omega)).mp q) (by omega)) ?_
    refine q_iload dL_isBest_175 rfl ?_
    refine q_if_eq_f 226 dL_isBest_177 (by decide) (by decide) ?_
    refine q_iload_n dL_isBest_180 rfl ?_
    refine q_iload dL_isBest_181 rfl ?_
    refine q_ishr dL_isBest_183 ?_
    refine q_iconstv (v := 1) dL_isBest_184 (by decide) ?_
    refine q_iand dL_isBest_185 ?_
    refine q_iconstv (v := 1) dL_isBest_186 (by decide) ?_
    refine q_icmp_eq 222 dL_isBest_187 (by decide) (fun c_187 => ?_) (fun c_187 => ?_)
    · exact hnext M hS
    · refine q_iload_n dL_isBest_190 rfl ?_
      refine q_iload dL_isBest_191 rfl ?_
      refine q_ishr dL_isBest_193 ?_
      refine q_iconstv (v := 1) dL_isBest_194 (by decide) ?_
      refine q_iand dL_isBest_195 ?_
      refine q_iconstv (v := 1) dL_isBest_196 (by decide) ?_
      refine q_icmp_eq 222 dL_isBest_197 (by decide) (fun c_197 => ?_) (fun c_197 => ?_)
      · exact hnext M hS
      · refine q_aload_n dL_isBest_200 rfl ?_
        refine q_iload dL_isBest_201 rfl ?_
        refine q_iload dL_isBest_203 rfl ?_
        refine q_callV (as := [_, _]) okX5_can lkL_65 dL_isBest_205 rfl (by decide) rfl (q_can1 hS ht hkn (by omega)) (by omega) rfl (by simp [Value.category]) (Nat.le_of_ble_eq_true rfl) rfl rfl (cat8 rfl) (fun M hS => ?_)
        refine q_if_eq 222 dL_isBest_208 (by decide) (fun c_208 => ?_) (fun c_208 => ?_)
        · exact hnext M hS
        · refine q_aload_n dL_isBest_211 rfl ?_
          refine q_iload dL_isBest_212 rfl ?_
          refine q_iload dL_isBest_214 rfl ?_
          refine q_callV (as := [_, _]) okX5_can lkL_65 dL_isBest_216 rfl (by decide) rfl (q_can1 hS hkn ht (by omega)) (by omega) rfl (by simp [Value.category]) (Nat.le_of_ble_eq_true rfl) rfl rfl (cat8 rfl) (fun M hS => ?_)
          refine q_if_ne_f 226 dL_isBest_219 (by decide) (hno c_187 c_197 c_208) ?_
          exact hnext M hS
theorem ib_outer : ∀ (m t : Nat) (M : Mem), t + m = nT V → St V K h M → (∀ M, St V K h M → YQ none 21 mL_isBest 241 [some (.ref 0), some (.int (nI (nT V))), some (.int (inM (cirG V) (nT V))), some (.int x3), some (.int x4), some (.int 1), some (.int (nI (nT V))), none, none, none] [] M (some (.int 1)) Q) → YQ none 21 mL_isBest 154 [some (.ref 0), some (.int (nI (nT V))), some (.int (inM (cirG V) (nT V))), some (.int x3), some (.int x4), some (.int 1), some (.int (nI t)), none, none, none] [] M (some (.int 1)) Q := by
  intro m
  induction m with
  | zero =>
    intro t M htk hS hk
    have h7 := n_7 hS.W
    have htn : t = nT V := by omega
    subst htn
    refine q_iload dL_isBest_154 rfl ?_
    refine q_iload_n dL_isBest_156 rfl ?_
    refine q_icmp_ge_t 241 dL_isBest_157 (by decide) (nI_le (Nat.le_refl _) (by omega)) ?_
    exact hk M hS
  | succ m ih =>
    intro t M htk hS hk
    have h7 := n_7 hS.W
    have ht : t < nT V := by omega
    refine q_iload dL_isBest_154 rfl ?_
    refine q_iload_n dL_isBest_156 rfl ?_
    refine q_icmp_ge_f 241 dL_isBest_157 (by decide) (fun q => absurd ((nI_leI (a := nT V) (b := t) (by omega) (by omega)).mp q) (by omega)) ?_
    refine q_iload dL_isBest_160 rfl ?_
    refine q_if_eq_f 241 dL_isBest_162 (by decide) (by decide) ?_
    refine q_iconstv (v := 0) dL_isBest_165 (by decide) ?_
    refine q_istore dL_isBest_166 (by decide) rfl ?_
    refine ib_inner ht (fun M hS => ?_) t 0 M (by omega) hS
    refine q_iincv (v := 1) dL_isBest_235 rfl (by decide) rfl (by decide) ?_
    rw [nI_1]
    refine q_goto 154 dL_isBest_238 (by decide) ?_
    exact ih (t + 1) M (by omega) hS hk
theorem q_isBest (hS : St V K h M) : YQ none 21 mL_isBest 0 (lent 10 [.ref 0]) [] M (some (.int 1)) (St V K h) := by
  have h7 := n_7 hS.W
  have hL := cir_ok hS.W
  have hle7 : ∀ L, bcn V L < 2 ^ 31 := fun L => by have := bcn_le (V := V) (L := L); omega
  have hge : ¬ mstV V 7 < nI (cnt (cirG V) (nT V)) := fun q => by
    rw [mst_eq] at q
    have h1 := (nI_ltI (hle7 7) (hle7 (cirN V))).mp q
    have h2 := bcn_mono (V := V) hL.2.2
    omega
  have hle : ¬ nI (cnt (cirG V) (nT V)) < mstV V 2 := fun q => by
    rw [mst_eq] at q
    have h1 := (nI_ltI (hle7 (cirN V)) (hle7 2)).mp q
    have h2 := bcn_mono (V := V) hL.2.1
    omega
  skip
  refine q_aload_n dL_isBest_0 rfl ?_
  refine q_iconstv (v := 1) dL_isBest_1 (by decide) ?_
  refine q_callV (as := [_]) okX5_count lkL_9 dL_isBest_2 rfl (by decide) rfl (q_count_1 hS) (by omega) rfl (by simp [Value.category]) (Nat.le_of_ble_eq_true rfl) rfl rfl (cat8 rfl) (fun M hS => ?_)
  refine q_istore_n dL_isBest_5 (by decide) rfl ?_
  refine q_iconstv (v := 0) dL_isBest_6 (by decide) ?_
  refine q_istore_n dL_isBest_7 (by decide) rfl ?_
  refine q_iconstv (v := 0) dL_isBest_8 (by decide) ?_
  refine q_istore_n dL_isBest_9 (by decide) rfl ?_
  refine q_iconstv (v := 0) dL_isBest_10 (by decide) ?_
  refine q_istore dL_isBest_11 (by decide) rfl ?_
  refine q_iconstv (v := 1) dL_isBest_13 (by decide) ?_
  refine q_istore dL_isBest_14 (by decide) rfl ?_
  refine q_iconstv (v := 0) dL_isBest_16 (by decide) ?_
  refine q_istore dL_isBest_17 (by decide) rfl ?_
  refine ib_loop1 (nT V) 0 M (by omega) hS (fun M hS => ?_)
  refine q_iconstv (v := 0) dL_isBest_151 (by decide) ?_
  refine q_istore dL_isBest_152 (by decide) rfl ?_
  refine ib_outer (nT V) 0 M (by omega) hS (fun M hS => ?_)
  refine q_iload dL_isBest_241 rfl ?_
  refine q_if_eq_f 311 dL_isBest_243 (by decide) (by decide) ?_
  refine q_iload_n dL_isBest_246 rfl ?_
  refine q_iload_n dL_isBest_247 rfl ?_
  refine q_icmp_ne_f 311 dL_isBest_248 (by decide) (in_gv hS.W bst_val) ?_
  refine q_iload dL_isBest_251 rfl ?_
  refine q_aload_n dL_isBest_253 rfl ?_
  refine q_iconstv (v := 0) dL_isBest_254 (by decide) ?_
  refine q_callV (as := [_]) okX5_most lkL_49 dL_isBest_255 rfl (by decide) rfl (q_most_0 hS) (by omega) rfl (by simp [Value.category]) (Nat.le_of_ble_eq_true rfl) rfl rfl (cat8 rfl) (fun M hS => ?_)
  refine q_icmp_ne_f 311 dL_isBest_258 (by decide) mst_eq.symm ?_
  refine q_iload dL_isBest_261 rfl ?_
  refine q_aload_n dL_isBest_263 rfl ?_
  refine q_iconstv (v := 1) dL_isBest_264 (by decide) ?_
  refine q_callV (as := [_]) okX5_most lkL_49 dL_isBest_265 rfl (by decide) rfl (q_most_1 hS) (by omega) rfl (by simp [Value.category]) (Nat.le_of_ble_eq_true rfl) rfl rfl (cat8 rfl) (fun M hS => ?_)
  refine q_icmp_ne_f 311 dL_isBest_268 (by decide) mst_eq.symm ?_
  refine q_aload_n dL_isBest_271 rfl ?_
  refine q_aload_n dL_isBest_272 rfl ?_
  refine q_bipushv (v := 11) dL_isBest_273 (by decide) ?_
  refine q_callV (as := [_]) okX5_count lkL_9 dL_isBest_275 rfl (by decide) rfl (q_count_11 hS) (by omega) rfl (by simp [Value.category]) (Nat.le_of_ble_eq_true rfl) rfl rfl (cat8 rfl) (fun M hS => ?_)
  refine q_callV (as := [_]) okX5_ifCircle lkL_68 dL_isBest_278 rfl (by decide) rfl (q_ifCircle hS hL.2.1 hL.2.2) (by omega) rfl (by simp [Value.category]) (Nat.le_of_ble_eq_true rfl) rfl rfl (cat8 rfl) (fun M hS => ?_)
  refine q_iload dL_isBest_281 rfl ?_
  refine q_icmp_ne_f 311 dL_isBest_283 (by decide) mst_eq ?_
  refine q_aload_n dL_isBest_286 rfl ?_
  refine q_bipushv (v := 7) dL_isBest_287 (by decide) ?_
  refine q_callV (as := [_]) okX5_ifCircle lkL_68 dL_isBest_289 rfl (by decide) rfl (q_ifCircle (L := 7) hS (by decide) (by decide)) (by omega) rfl (by simp [Value.category]) (Nat.le_of_ble_eq_true rfl) rfl rfl (cat8 rfl) (fun M hS => ?_)
  refine q_iload dL_isBest_292 rfl ?_
  refine q_icmp_lt_f 311 dL_isBest_294 (by decide) hge ?_
  refine q_aload_n dL_isBest_297 rfl ?_
  refine q_iconstv (v := 2) dL_isBest_298 (by decide) ?_
  refine q_callV (as := [_]) okX5_ifCircle lkL_68 dL_isBest_299 rfl (by decide) rfl (q_ifCircle (L := 2) hS (by decide) (by decide)) (by omega) rfl (by simp [Value.category]) (Nat.le_of_ble_eq_true rfl) rfl rfl (cat8 rfl) (fun M hS => ?_)
  refine q_iload dL_isBest_302 rfl ?_
  refine q_icmp_gt_f 311 dL_isBest_304 (by decide) hle ?_
  refine q_iconstv (v := 1) dL_isBest_307 (by decide) ?_
  refine q_goto 312 dL_isBest_308 (by decide) ?_
  exact q_ret dL_isBest_312 rfl (rfl) (rfl) hS
end IB
