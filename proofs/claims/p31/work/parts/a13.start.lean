/-! the memory that the constructors leave -/
def zer : Mem := fun _ _ => 0
def ini : Mem := iniG zer
theorem Zi_zer : Zi 0 zer := ⟨by decide, fun _ _ _ => rfl, fun k hk => absurd hk (by omega)⟩
def lenR (k : Nat) : Nat := match SH k with
  | .inl (_, L) => L.length
  | .inr (.inl _) => 0
  | .inr (.inr rs) => rs.length
theorem rf_len {k j r : Nat} (h : rf (SH k) j = some r) : j < lenR k := by
  unfold lenR
  cases hs : SH k with
  | inl p =>
    rw [hs] at h
    have h : p.2.getD j none = some r := h
    show j < p.2.length
    rcases Nat.lt_or_ge j p.2.length with q | q
    · exact q
    · rw [List.getD_eq_getElem?_getD, List.getElem?_eq_none q] at h
      cases h
  | inr p =>
    cases p with
    | inl p => rw [hs] at h; cases h
    | inr rs =>
      rw [hs] at h
      have h : rs.getD j none = some r := h
      show j < rs.length
      rcases Nat.lt_or_ge j rs.length with q | q
      · exact q
      · rw [List.getD_eq_getElem?_getD, List.getElem?_eq_none q] at h
        cases h
theorem lenR_20 : ∀ k, k < 84 → lenR k ≤ 20 := by decide +kernel
theorem ini_ck : ∀ k, k < 84 → ∀ j, j < 20 → rf (SH k) j = none ∨ ini k j ≠ 0 := by decide +kernel
theorem ini_all : ∀ k, k < NC → ∀ j r, rf (SH k) j = some r → ini k j ≠ 0 := by
  intro k hk j r h
  have h1 := rf_len h
  have h2 := lenR_20 k hk
  rcases ini_ck k hk j (by omega) with q | q
  · rw [q] at h; cases h
  · exact q
def row0 : Row := fun j => if j = 7 then 7 else if j = 8 then 1 else if j = 9 then -4 else if j = 10 ∨ j = 12 ∨ j = 14 ∨ j = 16 ∨ j = 18 ∨ j = 20 then 3 else 0
theorem ini_n : nT row0 = 0 := by decide +kernel
theorem ini_RM : RM ini 1 row0 := by
  refine ⟨⟨by decide +kernel, by decide +kernel, by decide +kernel, by decide +kernel, Or.inl ⟨by decide +kernel, by decide +kernel⟩, by decide +kernel, by decide +kernel, by decide +kernel, by decide +kernel, by decide +kernel⟩, by decide +kernel, fun j hj => ?_⟩
  rw [ini_n] at hj
  exact absurd hj (by omega)
theorem ini_Good : Good row0 := by
  have h6 : ∀ k, k < 6 → ¬ (row0 (10 + 2 * k) < 0 ∨ 10 ≤ (row0 (10 + 2 * k)).toNatClampNeg) ∧ 0 < row0 (10 + 2 * k) := by decide +kernel
  refine ⟨⟨fun q => absurd q (by decide +kernel), fun j hj => ?_, fun k hk => h6 k hk, ⟨fun q => absurd q (by decide +kernel), by decide +kernel⟩, fun q => absurd q (by decide +kernel), Or.inl (by decide +kernel)⟩, fun j hj => ?_⟩
  · rw [ini_n] at hj
    exact absurd hj (by omega)
  · rw [ini_n] at hj
    exact absurd hj (by omega)
theorem ini_St : St row0 0 (fun _ => row0) ini := ⟨⟨ini_RM, by omega, by decide +kernel, 0, by omega, by decide +kernel, fun i hi => absurd hi (by omega)⟩, ini_Good, by decide +kernel⟩
theorem ini_MB : MB row0 0 := fun j hj => by
  rw [ini_n] at hj
  exact absurd hj (by omega)
def szS (s : Sh) : Nat := match s with
  | .inl (_, L) => L.length
  | .inr (.inl (_, n)) => n
  | .inr (.inr rs) => rs.length
theorem csz_emb {M : Mem} : csz (emb M) ≤ 7302250 := by
  have h : (emb M).map csize = (List.range NC).map (fun k => szS (SH k)) := by
    unfold emb
    rw [List.map_map]
    apply List.map_congr_left
    intro k hk
    show csize (cellS (SH k) (M k)) = szS (SH k)
    cases SH k with
    | inl p => exact mkF_len _ _ _
    | inr p =>
      cases p with
      | inl p =>
        show ((List.range p.2).map (M k)).length = p.2
        simp
      | inr rs => rfl
  unfold csz
  rw [h]
  decide +kernel
theorem law_loop {L : Nat} {xs : Nat → Int32} (hL : L ≤ 260) {T : Nat} (hT : T ≤ 100) : ∀ (m k : Nat) (M : Mem), k + m = T → Post k M → YQ (some (L, xs)) 24 m_law 61 [some (.ref scrId), some (.ref 0), some (.int 1), some (.int (nI T)), some (.int (nI k))] [] M (some (.int 1)) (fun _ => True) := by
  intro m
  induction m with
  | zero =>
    intro k M hk hP
    refine q_iload dL_law_61 rfl ?_
    refine q_iload_n dL_law_63 rfl ?_
    refine q_icmp_ge_t 162 dL_law_64 (by decide) (nI_le (by omega) (by omega)) ?_
    refine q_iload_n dL_law_162 rfl ?_
    exact q_ret dL_law_163 rfl (rfl) (rfl) trivial
  | succ m ih =>
    intro k M hk hP
    obtain ⟨V, K, h, hS, hB⟩ := hP
    refine q_iload dL_law_61 rfl ?_
    refine q_iload_n dL_law_63 rfl ?_
    refine q_icmp_ge_f 162 dL_law_64 (by decide) (fun q => absurd ((nI_leI (a := T) (b := k) (by omega) (by omega)).mp q) (by omega)) ?_
    refine q_iload_n dL_law_67 rfl ?_
    refine q_if_eq_f 162 dL_law_68 (by decide) (by decide) ?_
    refine q_aload_n dL_law_71 rfl ?_
    refine q_aload_n dL_law_72 rfl ?_
    refine q_iconstv (v := 3) dL_law_73 (by decide) ?_
    refine q_iload dL_law_74 rfl ?_
    refine q_imul dL_law_76 ?_
    rw [show (3 : Int32) * nI k = nI (3 * k) from pk_mul 3 k]
    obtain ⟨v0, hv0⟩ := x_cell (xs := xs) hL (j := 3 * k) (by omega) (M := M)
    refine q_callC (as := [_, _]) okL_cell lkL_99 dL_law_77 rfl hv0 (by omega) rfl (by simp [Value.category]) (Nat.le_of_ble_eq_true rfl) (cat8 rfl) ?_
    refine q_bipushv (v := 16) dL_law_80 (by decide) ?_
    refine q_callS (as := [_, _]) okL_low lkL_15 dL_law_82 rfl (q_low hS (n := 16) (by decide) (by decide)) (by omega) rfl (by simp [Value.category]) (Nat.le_of_ble_eq_true rfl) (cat8 rfl) (fun M hS => ?_)
    refine q_aload_n dL_law_85 rfl ?_
    refine q_iconstv (v := 3) dL_law_86 (by decide) ?_
    refine q_iload dL_law_87 rfl ?_
    refine q_imul dL_law_89 ?_
    rw [show (3 : Int32) * nI k = nI (3 * k) from pk_mul 3 k]
    refine q_iconstv (v := 1) dL_law_90 (by decide) ?_
    refine q_iadd dL_law_91 ?_
    rw [nI_1]
    obtain ⟨v1, hv1⟩ := x_cell (xs := xs) hL (j := 3 * k + 1) (by omega) (M := M)
    refine q_callC (as := [_, _]) okL_cell lkL_99 dL_law_92 rfl hv1 (by omega) rfl (by simp [Value.category]) (Nat.le_of_ble_eq_true rfl) (cat8 rfl) ?_
    refine q_aload_n dL_law_95 rfl ?_
    refine q_iconstv (v := 3) dL_law_96 (by decide) ?_
    refine q_iload dL_law_97 rfl ?_
    refine q_imul dL_law_99 ?_
    rw [show (3 : Int32) * nI k = nI (3 * k) from pk_mul 3 k]
    refine q_iconstv (v := 2) dL_law_100 (by decide) ?_
    refine q_iadd dL_law_101 ?_
    rw [show nI (3 * k) + 2 = nI (3 * k + 2) from nI_add _ 2]
    obtain ⟨v2, hv2⟩ := x_cell (xs := xs) hL (j := 3 * k + 2) (by omega) (M := M)
    refine q_callC (as := [_, _]) okL_cell lkL_99 dL_law_102 rfl hv2 (by omega) rfl (by simp [Value.category]) (Nat.le_of_ble_eq_true rfl) (cat8 rfl) ?_
    refine q_callS (as := [_, _, _, _]) okL_change lkL_103 dL_law_105 rfl (q_change hS hB (by omega) (by have := lowN_lt (v := v0) (n := 16) (by decide); omega)) (by omega) rfl (by simp [Value.category]) (Nat.le_of_ble_eq_true rfl) (cat8 rfl) (fun M hS => ?_)
    obtain ⟨V, K, h, hS, hB⟩ := hS
    refine q_if_eq_f 154 dL_law_108 (by decide) (by decide) ?_
    refine q_aload_n dL_law_111 rfl ?_
    refine q_callS (as := [_]) okL_holds lkL_93 dL_law_112 rfl (q_holds hS) (by omega) rfl (by simp [Value.category]) (Nat.le_of_ble_eq_true rfl) (cat8 rfl) (fun M hS => ?_)
    refine q_if_eq_f 154 dL_law_115 (by decide) (by decide) ?_
    refine q_iload dL_law_118 rfl ?_
    refine q_iconstv (v := 5) dL_law_120 (by decide) ?_
    refine q_irem (by decide) dL_law_121 ?_
    refine q_iconstv (v := 4) dL_law_122 (by decide) ?_
    refine q_icmp_ne 150 dL_law_123 (by decide) (fun c_123 => ?_) (fun c_123 => ?_)
    · refine q_iconstv (v := 1) dL_law_150 (by decide) ?_
      refine q_goto 155 dL_law_151 (by decide) ?_
      refine q_istore_n dL_law_155 (by decide) rfl ?_
      refine q_iincv (v := 1) dL_law_156 rfl (by decide) rfl (by decide) ?_
      rw [nI_1]
      refine q_goto 61 dL_law_159 (by decide) ?_
      exact ih (k + 1) M (by omega) ⟨_, _, _, hS, hB⟩
    · refine q_aload_n dL_law_126 rfl ?_
      refine q_aload_n dL_law_127 rfl ?_
      refine q_iconstv (v := 3) dL_law_128 (by decide) ?_
      refine q_iload dL_law_129 rfl ?_
      refine q_imul dL_law_131 ?_
      rw [show (3 : Int32) * nI k = nI (3 * k) from pk_mul 3 k]
      refine q_iconstv (v := 2) dL_law_132 (by decide) ?_
      refine q_iadd dL_law_133 ?_
      rw [show nI (3 * k) + 2 = nI (3 * k + 2) from nI_add _ 2]
      obtain ⟨v3, hv3⟩ := x_cell (xs := xs) hL (j := 3 * k + 2) (by omega) (M := M)
      refine q_callC (as := [_, _]) okL_cell lkL_99 dL_law_134 rfl hv3 (by omega) rfl (by simp [Value.category]) (Nat.le_of_ble_eq_true rfl) (cat8 rfl) ?_
      refine q_callS (as := [_, _]) okL_tries lkL_107 dL_law_137 rfl (q_tries hS) (by omega) rfl (by simp [Value.category]) (Nat.le_of_ble_eq_true rfl) (cat8 rfl) (fun M hS => ?_)
      obtain ⟨h, hS⟩ := hS
      refine q_if_eq_f 154 dL_law_140 (by decide) (by decide) ?_
      refine q_aload_n dL_law_143 rfl ?_
      refine q_callS (as := [_]) okL_holds lkL_93 dL_law_144 rfl (q_holds hS) (by omega) rfl (by simp [Value.category]) (Nat.le_of_ble_eq_true rfl) (cat8 rfl) (fun M hS => ?_)
      refine q_if_eq_f 154 dL_law_147 (by decide) (by decide) ?_
      refine q_iconstv (v := 1) dL_law_150 (by decide) ?_
      refine q_goto 155 dL_law_151 (by decide) ?_
      refine q_istore_n dL_law_155 (by decide) rfl ?_
      refine q_iincv (v := 1) dL_law_156 rfl (by decide) rfl (by decide) ?_
      rw [nI_1]
      refine q_goto 61 dL_law_159 (by decide) ?_
      exact ih (k + 1) M (by omega) ⟨_, _, _, hS, hB⟩
theorem law_go {L : Nat} {xs : Nat → Int32} (hL : L ≤ 260) : YQ (some (L, xs)) 24 m_law 8 [some (.ref scrId), some (.ref 0), none, none, none] [] ini (some (.int 1)) (fun _ => True) := by
  have hS := ini_St
  generalize ini = M at *
  skip
  refine q_aload_n dL_law_8 rfl ?_
  refine q_callS (as := [_]) okL_holds lkL_93 dL_law_9 rfl (q_holds hS) (by omega) rfl (by simp [Value.category]) (Nat.le_of_ble_eq_true rfl) (cat8 rfl) (fun M hS => ?_)
  refine q_if_eq_f 37 dL_law_12 (by decide) (by decide) ?_
  refine q_aload_n dL_law_15 rfl ?_
  refine q_callV0 okX5_undo lkL_86 dL_law_16 (by decide) rfl (q_undo0 hS) (by omega) (Nat.le_of_ble_eq_true rfl) rfl rfl (cat8 rfl) (fun M hS => ?_)
  refine q_bipushv (v := -2) dL_law_19 (by decide) ?_
  refine q_icmp_ne_f 37 dL_law_21 (by decide) (by decide) ?_
  refine q_aload_n dL_law_24 rfl ?_
  refine q_callV0 okX5_restore lkL_96 dL_law_25 (by decide) rfl (q_restore0 hS) (by omega) (Nat.le_of_ble_eq_true rfl) rfl rfl (cat8 rfl) (fun M hS => ?_)
  refine q_bipushv (v := -2) dL_law_28 (by decide) ?_
  refine q_icmp_ne_f 37 dL_law_30 (by decide) (by decide) ?_
  refine q_iconstv (v := 1) dL_law_33 (by decide) ?_
  refine q_goto 38 dL_law_34 (by decide) ?_
  refine q_istore_n dL_law_38 (by decide) rfl ?_
  refine q_aload_n dL_law_39 rfl ?_
  refine q_slen dL_law_40 ?_
  refine q_iconstv (v := 3) dL_law_41 (by decide) ?_
  refine q_idiv (by decide) dL_law_42 ?_
  rw [show nI L / 3 = nI (L / 3) from pk_div (a := L) (d := 3) (by omega) (by decide) (by decide)]
  refine q_bipushv (v := 36) dL_law_43 (by decide) ?_
  refine q_icmp_le 53 dL_law_45 (by decide) (fun c_45 => ?_) (fun c_45 => ?_)
  · refine q_aload_n dL_law_53 rfl ?_
    refine q_slen dL_law_54 ?_
    refine q_iconstv (v := 3) dL_law_55 (by decide) ?_
    refine q_idiv (by decide) dL_law_56 ?_
    rw [show nI L / 3 = nI (L / 3) from pk_div (a := L) (d := 3) (by omega) (by decide) (by decide)]
    refine q_istore_n dL_law_57 (by decide) rfl ?_
    refine q_iconstv (v := 0) dL_law_58 (by decide) ?_
    refine q_istore dL_law_59 (by decide) rfl ?_
    exact law_loop hL (T := L / 3) (by omega) (L / 3) 0 M (by omega) ⟨_, _, _, hS, ini_MB⟩
  · refine q_bipushv (v := 36) dL_law_48 (by decide) ?_
    refine q_goto 57 dL_law_50 (by decide) ?_
    refine q_istore_n dL_law_57 (by decide) rfl ?_
    refine q_iconstv (v := 0) dL_law_58 (by decide) ?_
    refine q_istore dL_law_59 (by decide) rfl ?_
    exact law_loop hL (T := 36) (by omega) 36 0 M (by omega) ⟨_, _, _, hS, ini_MB⟩
theorem law_main {L : Nat} {xs : Nat → Int32} (hL : L ≤ 260) : ∃ M9 : Mem, X (some (L, xs)) 24 m_law 0 (lent 5 [.ref scrId]) [] [] (some (.int 1)) (emb M9) := by
  obtain ⟨M9, h9, _⟩ := law_go (xs := xs) hL
  refine ⟨M9, ?_⟩
  show X (some (L, xs)) 24 m_law 0 (lent 5 [.ref scrId]) [] (embP 0 zer) (some (.int 1)) (emb M9)
  have z1 : Zi (1) (zer) := Zi_new Zi_zer (by decide)
  refine p_new Zi_zer (by decide) rfl rfl dL_law_0 rfl ckL_10 isX5 inX5 (by decide) (by decide) (fun _ => ?_)
  refine x_dup_r dL_law_3 ?_
  refine p_callI (as := []) z1 okX5_init lkL_92 dL_law_4 rfl (p_game z1).1 (by omega) rfl (fun v hv => by cases hv) (Nat.le_of_ble_eq_true rfl) (by decide) (cat8 rfl) (by decide) (by decide) ?_
  refine x_astore_n dL_law_7 (by decide) rfl ?_
  show X (some (L, xs)) 24 m_law 8 [some (.ref scrId), some (.ref 0), none, none, none] [] (embP NC ini) (some (.int 1)) (emb M9)
  rw [embP_emb ini_all]
  exact h9
