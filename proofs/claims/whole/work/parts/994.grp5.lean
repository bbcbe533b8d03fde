theorem y_tr_loop {P : Row} {n : Nat} (hP : Pad P n) : ∀ (k i : Nat) (V : Row) (M : Mem), i + k = n → RM M 1 V → Good V → PadC M P n → (∀ x ∈ clL P n k i, okE x) → nT V + (clL P n k i).length ≤ 7 → ∃ M' : Mem, Y 4 mX5_traders 51 [some (.ref 0), some (.int (nI i))] [] M (some (.int (addL V (clL P n k i) 1))) M' ∧ RM M' 1 (addL V (clL P n k i)) ∧ M' 73 0 = 0 ∧ ∀ c, (c < 1 ∨ 10 < c) → c ≠ 73 → M' c = M c := by
  intro k
  induction k with
  | zero =>
    intro i V M hi hR hG hM _ _
    have hin : i = n := by omega
    subst hin
    have e1 : updM M 73 0 0 1 7 = V 1 := by rw [updM_ne (by decide)]; exact hR.1.1
    refine ⟨updM M 73 0 0, ?_, RM_congr (fun c a b => updM_ne (by omega)) hR, by rw [updM_at, if_pos ⟨rfl, rfl⟩], fun c _ h => updM_ne h⟩
    skip
    refine x_iload_n dX5_traders_51 rfl ?_
    refine x_aload_n dX5_traders_52 rfl ?_
    refine y_getR fkX5_32 dX5_traders_53 (by decide) rfl rfl ?_
    refine y_getI fkX5_114 dX5_traders_56 (by decide) rfl rfl ?_
    rw [hM.1]
    refine x_icmp_ge 106 dX5_traders_59 (by decide) (fun c_59 => ?_) (fun c_59 => ?_)
    · refine x_aload_n dX5_traders_106 rfl ?_
      refine y_getR fkX5_32 dX5_traders_107 (by decide) rfl rfl ?_
      refine x_iconstv (v := 0) dX5_traders_110 (by decide) ?_
      refine y_putI fkX5_114 dX5_traders_111 (by decide) rfl rfl rfl rfl rfl ?_
      refine x_aload_n dX5_traders_114 rfl ?_
      refine y_getR fkX5_10 dX5_traders_115 (by decide) rfl rfl ?_
      refine y_getI fkX5_61 dX5_traders_118 (by decide) rfl rfl ?_
      exact y_ret dX5_traders_121 rfl (rfl) (e1) (rfl)
    · exact absurd (Int32.le_refl _) c_59
  | succ k ih =>
    intro i V M hi hR hG hM hx hl
    have hn60 := hP.1
    have hlt := nI_ge (a := i) (b := n) (by omega) (by omega)
    have hs := y_signAt hP hM (j := i) (by omega)
    rw [show chF P n i = P i from if_pos (by omega)] at hs
    rw [clL] at hx hl ⊢
    by_cases h62 : P i = 62
    · rw [if_pos h62] at hx hl ⊢
      rw [h62] at hs
      rw [List.length_cons] at hl
      have hok := hx _ List.mem_cons_self
      obtain ⟨j, rfl⟩ : ∃ j, i = j + 1 := by
        cases i with
        | zero =>
          have h0 : vp_in (P 0 - 48) 6 := hok.1
          rw [h62] at h0
          exact (h0 (Or.inr (by decide))).elim
        | succ j => exact ⟨j, rfl⟩
      have hd := y_digitAt hP hM (j := j) (by omega)
      rw [show chF P n j = P j from if_pos (by omega)] at hd
      have hw := y_wb hP hM (i := j + 1) (by omega)
      rw [show n - (j + 1 + 1) = k by omega] at hw
      have e0 : n - (j + 1 + 1) = k := by omega
      rw [e0] at hx ⊢
      rw [Nat.add_sub_cancel] at hx hok ⊢
      rw [e0] at hok
      have hV := hG.1
      have ha := y_add mk1 hR hV (by omega) (mk := P j - 48) (w := wbC P n k (j + 1 + 1) 0)
      have hR2 := RM_come hR hV (by omega) (mk := P j - 48) (w := wbC P n k (j + 1 + 1) 0)
      have hG2 := Good_come hG (by omega) hok.1 hok.2
      have hf2 : FrO 1 M (adM M 1 (nT V) (P j - 48) (wbC P n k (j + 1 + 1) 0)) := FrO_ad
      obtain ⟨M9, s9, r9, z9, f9⟩ := ih (j + 1 + 1) _ _ (by omega) hR2 hG2 ⟨by rw [hf2 73 (by omega)]; exact hM.1, by rw [hf2 74 (by omega)]; exact hM.2⟩ (fun x q => hx x (List.mem_cons_of_mem _ q)) (by rw [(nT_come hV (by omega)).1]; omega)
      refine ⟨M9, ?_, r9, z9, fun c h1 h2 => by rw [f9 c h1 h2, hf2 c (by omega)]⟩
      skip
      refine x_iload_n dX5_traders_51 rfl ?_
      refine x_aload_n dX5_traders_52 rfl ?_
      refine y_getR fkX5_32 dX5_traders_53 (by decide) rfl rfl ?_
      refine y_getI fkX5_114 dX5_traders_56 (by decide) rfl rfl ?_
      rw [hM.1]
      refine x_icmp_ge 106 dX5_traders_59 (by decide) (fun c_59 => ?_) (fun c_59 => ?_)
      · exact absurd c_59 hlt
      · refine x_aload_n dX5_traders_62 rfl ?_
        refine y_getR fkX5_32 dX5_traders_63 (by decide) rfl rfl ?_
        refine x_iload_n dX5_traders_66 rfl ?_
        refine y_callV (as := [_]) okX3_signAt lkX5_130 dX5_traders_67 rfl (by decide) rfl ((hs.more (d' := 3) (by omega))) (by omega) rfl (by simp [Value.category]) (Nat.le_of_ble_eq_true rfl) rfl rfl (cat8 rfl) ?_
        refine x_bipushv (v := 62) dX5_traders_70 (by decide) ?_
        refine x_icmp_ne 100 dX5_traders_72 (by decide) (fun c_72 => ?_) (fun c_72 => ?_)
        · exact absurd rfl c_72
        · refine x_aload_n dX5_traders_75 rfl ?_
          refine y_getR fkX5_10 dX5_traders_76 (by decide) rfl rfl ?_
          refine x_aload_n dX5_traders_79 rfl ?_
          refine y_getR fkX5_32 dX5_traders_80 (by decide) rfl rfl ?_
          refine x_iload_n dX5_traders_83 rfl ?_
          refine x_iconstv (v := 1) dX5_traders_84 (by decide) ?_
          refine x_isub dX5_traders_85 ?_
          rw [nI_s1]
          refine y_callV (as := [_]) okX3_digitAt lkX5_134 dX5_traders_86 rfl (by decide) rfl ((hd.more (d' := 3) (by omega))) (by omega) rfl (by simp [Value.category]) (Nat.le_of_ble_eq_true rfl) rfl rfl (cat8 rfl) ?_
          refine x_aload_n dX5_traders_89 rfl ?_
          refine y_getR fkX5_32 dX5_traders_90 (by decide) rfl rfl ?_
          refine x_iload_n dX5_traders_93 rfl ?_
          refine y_callV (as := [_]) okX3_wantsBehind lkX5_138 dX5_traders_94 rfl (by decide) rfl ((hw.more (d' := 3) (by omega))) (by omega) rfl (by simp [Value.category]) (Nat.le_of_ble_eq_true rfl) rfl rfl (cat8 rfl) ?_
          refine y_callV (as := [_, _]) okX2_add lkX5_68 dX5_traders_97 rfl (by decide) rfl ((ha.more (d' := 3) (by omega))) (by omega) rfl (by simp [Value.category]) (Nat.le_of_ble_eq_true rfl) rfl rfl (cat8 rfl) ?_
          refine x_iincv (v := 1) dX5_traders_100 rfl (by decide) rfl (by decide) ?_
          refine x_goto 51 dX5_traders_103 (by decide) ?_
          rw [nI_1]
          exact s9
    · rw [if_neg h62] at hx hl ⊢
      obtain ⟨M9, s9, r9, z9, f9⟩ := ih (i + 1) V M (by omega) hR hG hM hx hl
      refine ⟨M9, ?_, r9, z9, f9⟩
      skip
      refine x_iload_n dX5_traders_51 rfl ?_
      refine x_aload_n dX5_traders_52 rfl ?_
      refine y_getR fkX5_32 dX5_traders_53 (by decide) rfl rfl ?_
      refine y_getI fkX5_114 dX5_traders_56 (by decide) rfl rfl ?_
      rw [hM.1]
      refine x_icmp_ge 106 dX5_traders_59 (by decide) (fun c_59 => ?_) (fun c_59 => ?_)
      · exact absurd c_59 hlt
      · refine x_aload_n dX5_traders_62 rfl ?_
        refine y_getR fkX5_32 dX5_traders_63 (by decide) rfl rfl ?_
        refine x_iload_n dX5_traders_66 rfl ?_
        refine y_callV (as := [_]) okX3_signAt lkX5_130 dX5_traders_67 rfl (by decide) rfl ((hs.more (d' := 3) (by omega))) (by omega) rfl (by simp [Value.category]) (Nat.le_of_ble_eq_true rfl) rfl rfl (cat8 rfl) ?_
        refine x_bipushv (v := 62) dX5_traders_70 (by decide) ?_
        refine x_icmp_ne 100 dX5_traders_72 (by decide) (fun c_72 => ?_) (fun c_72 => ?_)
        · refine x_iincv (v := 1) dX5_traders_100 rfl (by decide) rfl (by decide) ?_
          refine x_goto 51 dX5_traders_103 (by decide) ?_
          rw [nI_1]
          exact s9
        · exact absurd c_72 h62
theorem y_traders0 {M : Mem} {P : Row} {n : Nat} (hP : Pad P n) (hM : PadC M P n) (hf : ¬ ftC P n n 0 0 48 = -4) : Y 4 mX5_traders 0 (lent 2 [.ref 0]) [] M (some (.int (-2))) M := by
  skip
  refine x_aload_n dX5_traders_0 rfl ?_
  refine y_getR fkX5_32 dX5_traders_1 (by decide) rfl rfl ?_
  refine y_callV0 okX3_faultAsTraders lkX5_121 dX5_traders_4 (by decide) rfl (((y_ft hP hM).more (d' := 3) (by omega))) (by omega) (Nat.le_of_ble_eq_true rfl) rfl rfl (cat8 rfl) ?_
  refine x_bipushv (v := -4) dX5_traders_7 (by decide) ?_
  refine x_icmp_eq 15 dX5_traders_9 (by decide) (fun c_9 => ?_) (fun c_9 => ?_)
  · exact absurd c_9 hf
  · refine x_bipushv (v := -2) dX5_traders_12 (by decide) ?_
    exact y_ret dX5_traders_14 rfl (rfl) (rfl) (rfl)
theorem y_tradersL {M : Mem} {V : Row} (hR : RM M 1 V) (hV : WF V) {P : Row} {n : Nat} (hP : Pad P n) (hM : PadC M P n) (hf : ftC P n n 0 0 48 = -4) {l : Nat} (hl60 : l ≤ 60) (hc : sumF (fun j => ind (P j = 62)) n = nI l) (hl : 7 < nT V + l) : Y 4 mX5_traders 0 (lent 2 [.ref 0]) [] M (some (.int (-3))) M := by
  obtain ⟨hn1, hn2⟩ := WF_n hV
  have hft := y_ft hP hM
  rw [hf] at hft
  have e7 : M 1 7 = nI (nT V) := hR.1.1.trans hn2
  have hgt : ¬ nI (nT V + l) ≤ 7 := nI_ge (a := 7) (b := nT V + l) hl (by omega)
  have hnt := y_nTr hP hM
  rw [hc] at hnt
  skip
  refine x_aload_n dX5_traders_0 rfl ?_
  refine y_getR fkX5_32 dX5_traders_1 (by decide) rfl rfl ?_
  refine y_callV0 okX3_faultAsTraders lkX5_121 dX5_traders_4 (by decide) rfl ((hft.more (d' := 3) (by omega))) (by omega) (Nat.le_of_ble_eq_true rfl) rfl rfl (cat8 rfl) ?_
  refine x_bipushv (v := -4) dX5_traders_7 (by decide) ?_
  refine x_icmp_eq 15 dX5_traders_9 (by decide) (fun c_9 => ?_) (fun c_9 => ?_)
  · refine x_aload_n dX5_traders_15 rfl ?_
    refine y_getR fkX5_10 dX5_traders_16 (by decide) rfl rfl ?_
    refine y_getI fkX5_61 dX5_traders_19 (by decide) rfl rfl ?_
    rw [e7]
    refine x_aload_n dX5_traders_22 rfl ?_
    refine y_getR fkX5_32 dX5_traders_23 (by decide) rfl rfl ?_
    refine y_callV0 okX3_numberOfTraders lkX5_127 dX5_traders_26 (by decide) rfl ((hnt.more (d' := 3) (by omega))) (by omega) (Nat.le_of_ble_eq_true rfl) rfl rfl (cat8 rfl) ?_
    refine x_iadd dX5_traders_29 ?_
    rw [nI_add]
    refine x_bipushv (v := 7) dX5_traders_30 (by decide) ?_
    refine x_icmp_le 38 dX5_traders_32 (by decide) (fun c_32 => ?_) (fun c_32 => ?_)
    · exact absurd c_32 hgt
    · refine x_bipushv (v := -3) dX5_traders_35 (by decide) ?_
      exact y_ret dX5_traders_37 rfl (rfl) (rfl) (rfl)
  · exact absurd rfl c_9
theorem y_traders1 {M : Mem} {V : Row} {K : Nat} {h : Nat → Row} (hC : CI M V K h) (hG : Good V) {P : Row} {n : Nat} (hP : Pad P n) (hM : PadC M P n) (hf : ftC P n n 0 0 48 = -4) {l : List (Int32 × Int32)} (hc : clL P n n 0 = l) (hx : ∀ x ∈ l, okE x) (hl : nT V + l.length ≤ 7) : ∃ M' : Mem, Y 4 mX5_traders 0 (lent 2 [.ref 0]) [] M (some (.int (addL V l 1))) M' ∧ CI M' (addL V l) (kup K) (hup K h V) ∧ M' 73 0 = 0 ∧ M' 0 = M 0 ∧ ∀ c, (21 ≤ c ∧ c ≤ 30) ∨ 84 ≤ c → M' c = M c := by
  have hV := hG.1
  obtain ⟨hn1, hn2⟩ := WF_n hV
  have hC0 := hC
  obtain ⟨hR, hH⟩ := hC0
  have hH0 := hH
  obtain ⟨hK, hk0, w, hw, hk2, _⟩ := hH0
  have hrec := y_record hK hw hk0 hk2
  have hrr := CI_rec hC hn1 hw hk2
  rw [show updM (cfM (updM M 31 2 (nI ((w + 1) % 4))) (33 + 10 * ((w + 1) % 4)) 1) 31 0 (nI (min (K + 1) 4)) = recC M K w from rfl] at hrec
  generalize recC M K w = M1 at *
  obtain ⟨hC1, hF1⟩ := hrr
  have hR1 := hC1.1
  have hft := y_ft hP hM
  rw [hf] at hft
  have e7 : M 1 7 = nI (nT V) := hR.1.1.trans hn2
  have hle : nI (nT V + l.length) ≤ 7 := nI_le (a := nT V + l.length) (b := 7) hl (by decide)
  have hnt := y_nTr hP hM
  have hcl := cl_len (P := P) (n := n) n 0
  rw [Nat.zero_add, hc] at hcl
  rw [hcl, show sumF (fun j => ind (P j = 62)) 0 + nI l.length = nI (0 + l.length) from nI_add 0 l.length, Nat.zero_add] at hnt
  subst hc
  obtain ⟨M9, s9, r9, z9, f9⟩ := y_tr_loop hP n 0 V M1 (by omega) hR1 hG ⟨by rw [hF1 73 (by omega)]; exact hM.1, by rw [hF1 74 (by omega)]; exact hM.2⟩ hx hl
  refine ⟨M9, ?_, ⟨r9, HC_fr (fun c a b => f9 c (by omega) (by omega)) hC1.2⟩, z9, by rw [f9 0 (by omega) (by omega), hF1 0 (by omega)], fun c hc => by rw [f9 c (by omega) (by omega), hF1 c (by omega)]⟩
  skip
  refine x_aload_n dX5_traders_0 rfl ?_
  refine y_getR fkX5_32 dX5_traders_1 (by decide) rfl rfl ?_
  refine y_callV0 okX3_faultAsTraders lkX5_121 dX5_traders_4 (by decide) rfl ((hft.more (d' := 3) (by omega))) (by omega) (Nat.le_of_ble_eq_true rfl) rfl rfl (cat8 rfl) ?_
  refine x_bipushv (v := -4) dX5_traders_7 (by decide) ?_
  refine x_icmp_eq 15 dX5_traders_9 (by decide) (fun c_9 => ?_) (fun c_9 => ?_)
  · refine x_aload_n dX5_traders_15 rfl ?_
    refine y_getR fkX5_10 dX5_traders_16 (by decide) rfl rfl ?_
    refine y_getI fkX5_61 dX5_traders_19 (by decide) rfl rfl ?_
    rw [e7]
    refine x_aload_n dX5_traders_22 rfl ?_
    refine y_getR fkX5_32 dX5_traders_23 (by decide) rfl rfl ?_
    refine y_callV0 okX3_numberOfTraders lkX5_127 dX5_traders_26 (by decide) rfl ((hnt.more (d' := 3) (by omega))) (by omega) (Nat.le_of_ble_eq_true rfl) rfl rfl (cat8 rfl) ?_
    refine x_iadd dX5_traders_29 ?_
    rw [nI_add]
    refine x_bipushv (v := 7) dX5_traders_30 (by decide) ?_
    refine x_icmp_le 38 dX5_traders_32 (by decide) (fun c_32 => ?_) (fun c_32 => ?_)
    · refine x_aload_n dX5_traders_38 rfl ?_
      refine y_getR fkX5_25 dX5_traders_39 (by decide) rfl rfl ?_
      refine x_aload_n dX5_traders_42 rfl ?_
      refine y_getR fkX5_10 dX5_traders_43 (by decide) rfl rfl ?_
      refine y_callV (as := [_]) okX1_record lkX5_64 dX5_traders_46 rfl (by decide) rfl ((hrec.more (d' := 3) (by omega))) (by omega) rfl (by simp [Value.category]) (Nat.le_of_ble_eq_true rfl) rfl rfl (cat8 rfl) ?_
      refine x_iconstv (v := 0) dX5_traders_49 (by decide) ?_
      refine x_istore_n dX5_traders_50 (by decide) rfl ?_
      exact s9
    · exact absurd hle c_32
  · exact absurd rfl c_9
theorem r_tr_in {M M9 : Mem} {P : Row} {n : Nat} (hP : Pad P n) (hM : PadR M P n) {i e : Nat} (he : e ≤ n) {r : Option Value} {w9 : Int32} (hk : Y 5 mX6_traders 85 [some (.ref 84), some (.int (nI i)), some (.int (nI e)), some (.int w9), some (.int (nI e))] [] M r M9) : ∀ (m a : Nat) (w : Int32), a + m = e → orb P m a w = w9 → Y 5 mX6_traders 58 [some (.ref 84), some (.int (nI i)), some (.int (nI e)), some (.int w), some (.int (nI a))] [] M r M9 := by
  have hn60 := hP.1
  intro m
  induction m with
  | zero =>
    intro a w ha hw
    have : a = e := by omega
    subst this
    rw [orb] at hw
    subst hw
    skip
    refine x_iload dX6_traders_58 rfl ?_
    refine x_iload_n dX6_traders_60 rfl ?_
    refine x_icmp_ge 85 dX6_traders_61 (by decide) (fun c_61 => ?_) (fun c_61 => ?_)
    · exact hk
    · exact absurd (Int32.le_refl _) c_61
  | succ m ih =>
    intro a w ha hw
    rw [orb] at hw
    have hlt := nI_ge (a := a) (b := e) (by omega) (by omega)
    have ep : M 89 a = P a := hM.2 a (by omega)
    have s9 := ih (a + 1) _ (by omega) hw
    skip
    refine x_iload dX6_traders_58 rfl ?_
    refine x_iload_n dX6_traders_60 rfl ?_
    refine x_icmp_ge 85 dX6_traders_61 (by decide) (fun c_61 => ?_) (fun c_61 => ?_)
    · exact absurd c_61 hlt
    · refine x_iload_n dX6_traders_64 rfl ?_
      refine x_iconstv (v := 1) dX6_traders_65 (by decide) ?_
      refine x_aload_n dX6_traders_66 rfl ?_
      refine y_getR fkX6_22 dX6_traders_67 (by decide) rfl rfl ?_
      refine x_iload dX6_traders_70 rfl ?_
      refine y_ialdn (j := a) dX6_traders_72 (by decide) rfl (ixN (by omega)) (by omega) ?_
      rw [ep]
      refine x_bipushv (v := 48) dX6_traders_73 (by decide) ?_
      refine x_isub dX6_traders_75 ?_
      refine x_ishl dX6_traders_76 ?_
      refine x_ior dX6_traders_77 ?_
      refine x_istore_n dX6_traders_78 (by decide) rfl ?_
      refine x_iincv (v := 1) dX6_traders_79 rfl (by decide) rfl (by decide) ?_
      refine x_goto 58 dX6_traders_82 (by decide) ?_
      rw [nI_1]
      exact s9
theorem r_tr_end {M : Mem} {V : Row} (h85 : M 85 = V) {n i : Nat} (h7 : M 84 7 = nI n) (hi : n ≤ i) (hi2 : i < 100) {l2 l3 l4 : Option Value} : ∃ M' : Mem, Y 5 mX6_traders 37 [some (.ref 84), some (.int (nI i)), l2, l3, l4] [] M (some (.int (V 1))) M' ∧ M' 85 = V ∧ M' 84 7 = 0 ∧ (∀ c, c ≠ 84 → c ≠ 85 → M' c = M c) ∧ ∀ i, i ≠ 7 → M' 84 i = M 84 i := by
  have hle := nI_le hi (by omega)
  have e1 : updM M 84 7 0 85 1 = V 1 := by rw [updM_ne (by decide), h85]
  refine ⟨updM M 84 7 0, ?_, by rw [updM_ne (by decide)]; exact h85, by rw [updM_at, if_pos ⟨rfl, rfl⟩], fun c h _ => updM_ne h, fun i h => by rw [updM_at, if_neg (by omega)]⟩
  skip
  refine x_iload_n dX6_traders_37 rfl ?_
  refine x_aload_n dX6_traders_38 rfl ?_
  refine y_getI fkX6_130 dX6_traders_39 (by decide) rfl rfl ?_
  rw [h7]
  refine x_icmp_ge 108 dX6_traders_42 (by decide) (fun c_42 => ?_) (fun c_42 => ?_)
  · refine x_aload_n dX6_traders_108 rfl ?_
    refine x_iconstv (v := 0) dX6_traders_109 (by decide) ?_
    refine y_putI fkX6_130 dX6_traders_110 (by decide) rfl rfl rfl rfl rfl ?_
    refine x_aload_n dX6_traders_113 rfl ?_
    refine y_getR fkX6_7 dX6_traders_114 (by decide) rfl rfl ?_
    refine x_iconstv (v := 1) dX6_traders_117 (by decide) ?_
    refine y_ialdn (j := 1) dX6_traders_118 (by decide) rfl (by decide) (by decide) ?_
    exact y_ret dX6_traders_119 rfl (rfl) (e1) (rfl)
  · exact absurd hle c_42
theorem r_tr_loop {P : Row} {n : Nat} (hP : Pad P n) : ∀ (f i : Nat) (l : List (Int32 × Int32)) (V : Row) (M : Mem) (l2 l3 l4 : Option Value), sg P n f i = some l → (∀ x ∈ l, okE x) → nT V + l.length ≤ 7 → M 85 = V → Good V → PadR M P n → ∃ M' : Mem, Y 5 mX6_traders 37 [some (.ref 84), some (.int (nI i)), l2, l3, l4] [] M (some (.int (addL V l 1))) M' ∧ M' 85 = addL V l ∧ M' 84 7 = 0 ∧ (∀ c, c ≠ 84 → c ≠ 85 → M' c = M c) ∧ ∀ i, i ≠ 7 → M' 84 i = M 84 i := by
  have hn60 := hP.1
  intro f
  induction f with
  | zero => intro i l V M l2 l3 l4 h; cases h
  | succ f ih =>
    intro i l V M l2 l3 l4 h hx hl h85 hG hM
    rw [sg] at h
    cases hb : btE P n i with
    | inl p => rw [hb] at h; cases h
    | inr e =>
      obtain ⟨b1, b2, b3, b4, b5⟩ := btE_inr hb
      rw [hb] at h
      have h : (if e < n then (if P e = 44 then (sg P n f (e + 1)).map (fun l => (P i - 48, orb P (e - (i + 2)) (i + 2) 0) :: l) else none) else some [(P i - 48, orb P (e - (i + 2)) (i + 2) 0)]) = some l := h
      have hbt := r_bt hP hM (i := i) (by omega)
      rw [hb] at hbt
      have hbt : Y 2 mX6_behindTrader 0 (lent 4 [.ref 84, .int (nI i)]) [] M (some (.int (nI e))) M := hbt
      have hlt := nI_ge (a := i) (b := n) (by omega) (by omega)
      have ep : M 89 i = P i := hM.2 i (by omega)
      have key : ∀ l', l = (P i - 48, orb P (e - (i + 2)) (i + 2) 0) :: l' → (∃ M' : Mem, Y 5 mX6_traders 37 [some (.ref 84), some (.int (nI (e + 1))), some (.int (nI e)), some (.int (orb P (e - (i + 2)) (i + 2) 0)), some (.int (M 85 1))] [] (setR M 85 (comeV (M 85) (P i - 48) (orb P (e - (i + 2)) (i + 2) 0))) (some (.int (addL V l 1))) M' ∧ M' 85 = addL V l ∧ M' 84 7 = 0 ∧ (∀ c, c ≠ 84 → c ≠ 85 → M' c = setR M 85 (comeV (M 85) (P i - 48) (orb P (e - (i + 2)) (i + 2) 0)) c) ∧ ∀ j, j ≠ 7 → M' 84 j = setR M 85 (comeV (M 85) (P i - 48) (orb P (e - (i + 2)) (i + 2) 0)) 84 j) → ∃ M' : Mem, Y 5 mX6_traders 37 [some (.ref 84), some (.int (nI i)), l2, l3, l4] [] M (some (.int (addL V l 1))) M' ∧ M' 85 = addL V l ∧ M' 84 7 = 0 ∧ (∀ c, c ≠ 84 → c ≠ 85 → M' c = M c) ∧ ∀ i, i ≠ 7 → M' 84 i = M 84 i := by
        rintro l' hl' ⟨M9, s9, p1, p2, p3, p4⟩
        refine ⟨M9, ?_, p1, p2, fun c a b => by rw [p3 c a b, row_ne b], fun j a => by rw [p4 j a, row_ne (by decide)]⟩
        have hlen : nT V + 1 ≤ 7 := by rw [hl', List.length_cons] at hl; omega
        have hc := r_comes (M := M) (mk := P i - 48) (w := orb P (e - (i + 2)) (i + 2) 0) (by rw [h85]; exact (WF_n hG.1).2) (by rw [h85]; omega)
        have hk : Y 5 mX6_traders 85 [some (.ref 84), some (.int (nI i)), some (.int (nI e)), some (.int (orb P (e - (i + 2)) (i + 2) 0)), some (.int (nI e))] [] M (some (.int (addL V l 1))) M9 := by
          skip
          refine x_aload_n dX6_traders_85 rfl ?_
          refine x_aload_n dX6_traders_86 rfl ?_
          refine y_getR fkX6_22 dX6_traders_87 (by decide) rfl rfl ?_
          refine x_iload_n dX6_traders_90 rfl ?_
          refine y_ialdn (j := i) dX6_traders_91 (by decide) rfl (ixN (by omega)) (by omega) ?_
          rw [ep]
          refine x_bipushv (v := 48) dX6_traders_92 (by decide) ?_
          refine x_isub dX6_traders_94 ?_
          refine x_iload_n dX6_traders_95 rfl ?_
          refine y_callV (as := [_, _]) okX6_comes lkX6_111 dX6_traders_96 rfl (by decide) rfl ((hc.more (d' := 4) (by omega))) (by omega) rfl (by simp [Value.category]) (Nat.le_of_ble_eq_true rfl) rfl rfl (cat8 rfl) ?_
          refine x_istore dX6_traders_99 (by decide) rfl ?_
          refine x_iload_n dX6_traders_101 rfl ?_
          refine x_iconstv (v := 1) dX6_traders_102 (by decide) ?_
          refine x_iadd dX6_traders_103 ?_
          refine x_istore_n dX6_traders_104 (by decide) rfl ?_
          refine x_goto 37 dX6_traders_105 (by decide) ?_
          rw [nI_1]
          exact s9
        have hin := r_tr_in hP hM b2 hk (e - (i + 2)) (i + 2) 0 (by omega) rfl
        skip
        refine x_iload_n dX6_traders_37 rfl ?_
        refine x_aload_n dX6_traders_38 rfl ?_
        refine y_getI fkX6_130 dX6_traders_39 (by decide) rfl rfl ?_
        rw [hM.1]
        refine x_icmp_ge 108 dX6_traders_42 (by decide) (fun c_42 => ?_) (fun c_42 => ?_)
        · exact absurd c_42 hlt
        · refine x_aload_n dX6_traders_45 rfl ?_
          refine x_iload_n dX6_traders_46 rfl ?_
          refine y_callV (as := [_]) okX6_behindTrader lkX6_139 dX6_traders_47 rfl (by decide) rfl ((hbt.more (d' := 4) (by omega))) (by omega) rfl (by simp [Value.category]) (Nat.le_of_ble_eq_true rfl) rfl rfl (cat8 rfl) ?_
          refine x_istore_n dX6_traders_50 (by decide) rfl ?_
          refine x_iconstv (v := 0) dX6_traders_51 (by decide) ?_
          refine x_istore_n dX6_traders_52 (by decide) rfl ?_
          refine x_iload_n dX6_traders_53 rfl ?_
          refine x_iconstv (v := 2) dX6_traders_54 (by decide) ?_
          refine x_iadd dX6_traders_55 ?_
          rw [show (2 : Int32) = nI 2 from rfl, nI_add]
          refine x_istore dX6_traders_56 (by decide) rfl ?_
          exact hin
      by_cases hen : e < n
      · rw [if_pos hen] at h
        by_cases h4 : P e = 44
        · rw [if_pos h4] at h
          cases hs : sg P n f (e + 1) with
          | none => rw [hs] at h; cases h
          | some l' =>
            rw [hs] at h
            cases h
            refine key l' rfl ?_
            have hok := hx _ List.mem_cons_self
            rw [List.length_cons] at hl
            have hG2 := Good_come hG (by omega) hok.1 hok.2
            exact ih (e + 1) l' (comeV V (P i - 48) (orb P (e - (i + 2)) (i + 2) 0)) (setR M 85 (comeV (M 85) (P i - 48) (orb P (e - (i + 2)) (i + 2) 0))) _ _ _ hs (fun x q => hx x (List.mem_cons_of_mem _ q)) (by rw [(nT_come hG.1 (by omega)).1]; omega) (by rw [row_at, h85]) hG2 ⟨by rw [row_ne (by decide)]; exact hM.1, by rw [row_ne (by decide)]; exact hM.2⟩
        · rw [if_neg h4] at h; cases h
      · rw [if_neg hen] at h
        cases h
        refine key [] rfl ?_
        have := r_tr_end (M := setR M 85 (comeV (M 85) (P i - 48) (orb P (e - (i + 2)) (i + 2) 0))) (V := comeV V (P i - 48) (orb P (e - (i + 2)) (i + 2) 0)) (n := n) (i := e + 1) (by rw [row_at, h85]) (by rw [row_ne (by decide)]; exact hM.1) (by omega) (by omega) (l2 := some (.int (nI e))) (l3 := some (.int (orb P (e - (i + 2)) (i + 2) 0))) (l4 := some (.int (M 85 1)))
        exact this
theorem r_traders0 {M : Mem} {P : Row} {n : Nat} (hP : Pad P n) (hM : PadR M P n) (hf : ¬ (ftR P n (n + 1) 0 0).1 = -4) : Y 6 mX6_traders 0 (lent 5 [.ref 84]) [] M (some (.int (-2))) (updM M 84 16 (nI (ftR P n (n + 1) 0 0).2)) := by
  skip
  refine x_aload_n dX6_traders_0 rfl ?_
  refine y_callV0 okX6_faultOfTraders lkX6_142 dX6_traders_1 (by decide) rfl (((r_fo hP hM).more (d' := 5) (by omega))) (by omega) (Nat.le_of_ble_eq_true rfl) rfl rfl (cat8 rfl) ?_
  refine x_bipushv (v := -4) dX6_traders_4 (by decide) ?_
  refine x_icmp_eq 12 dX6_traders_6 (by decide) (fun c_6 => ?_) (fun c_6 => ?_)
  · exact absurd c_6 hf
  · refine x_bipushv (v := -2) dX6_traders_9 (by decide) ?_
    exact y_ret dX6_traders_11 rfl (rfl) (rfl) (rfl)
theorem r_tradersL {M : Mem} {P : Row} {n : Nat} (hP : Pad P n) (hM : PadR M P n) (hV : WF (M 85)) {l : Nat} (hl60 : l ≤ 60) (hf : ftR P n (n + 1) 0 0 = (-4, l)) (hl : 7 < nT (M 85) + l) : Y 6 mX6_traders 0 (lent 5 [.ref 84]) [] M (some (.int (-3))) (updM M 84 16 (nI l)) := by
  obtain ⟨hn1, hn2⟩ := WF_n hV
  have hfo := r_fo hP hM
  rw [hf] at hfo
  have e1 : updM M 84 16 (nI l) 85 1 = nI (nT (M 85)) := by rw [updM_ne (by decide)]; exact hn2
  have e2 : updM M 84 16 (nI l) 84 16 = nI l := by rw [updM_at, if_pos ⟨rfl, rfl⟩]
  have hgt : ¬ nI (nT (M 85) + l) ≤ 7 := nI_ge (a := 7) (b := nT (M 85) + l) hl (by omega)
  skip
  refine x_aload_n dX6_traders_0 rfl ?_
  refine y_callV0 okX6_faultOfTraders lkX6_142 dX6_traders_1 (by decide) rfl ((hfo.more (d' := 5) (by omega))) (by omega) (Nat.le_of_ble_eq_true rfl) rfl rfl (cat8 rfl) ?_
  refine x_bipushv (v := -4) dX6_traders_4 (by decide) ?_
  refine x_icmp_eq 12 dX6_traders_6 (by decide) (fun c_6 => ?_) (fun c_6 => ?_)
  · refine x_aload_n dX6_traders_12 rfl ?_
    refine y_getR fkX6_7 dX6_traders_13 (by decide) rfl rfl ?_
    refine x_iconstv (v := 1) dX6_traders_16 (by decide) ?_
    refine y_ialdn (j := 1) dX6_traders_17 (by decide) rfl (by decide) (by decide) ?_
    rw [e1]
    refine x_aload_n dX6_traders_18 rfl ?_
    refine y_getI fkX6_136 dX6_traders_19 (by decide) rfl rfl ?_
    rw [e2]
    refine x_iadd dX6_traders_22 ?_
    rw [nI_add]
    refine x_bipushv (v := 7) dX6_traders_23 (by decide) ?_
    refine x_icmp_le 31 dX6_traders_25 (by decide) (fun c_25 => ?_) (fun c_25 => ?_)
    · exact absurd c_25 hgt
    · refine x_bipushv (v := -3) dX6_traders_28 (by decide) ?_
      exact y_ret dX6_traders_30 rfl (rfl) (rfl) (rfl)
  · exact absurd rfl c_6
theorem r_traders1 {M : Mem} {P : Row} {n : Nat} (hP : Pad P n) (hM : PadR M P n) (hG : Good (M 85)) {K : Nat} (hK : K ≤ 4) (hk : M 84 3 = nI K) {l : List (Int32 × Int32)} (hs : sg P n (n + 1) 0 = some l) (hx : ∀ x ∈ l, okE x) (hf : ftR P n (n + 1) 0 0 = (-4, l.length)) (hl : nT (M 85) + l.length ≤ 7) : ∃ M' : Mem, Y 6 mX6_traders 0 (lent 5 [.ref 84]) [] M (some (.int (addL (M 85) l 1))) M' ∧ M' 85 = addL (M 85) l ∧ M' 84 7 = 0 ∧ M' 87 = recH M K ∧ M' 84 3 = nI (recK K) ∧ (∀ c, c ≠ 84 → c ≠ 85 → c ≠ 87 → M' c = M c) ∧ ∀ i, i ≠ 3 → i ≠ 7 → i ≠ 16 → M' 84 i = M 84 i := by
  obtain ⟨hn1, hn2⟩ := WF_n hG.1
  have hfo := r_fo hP hM
  rw [hf] at hfo
  have e1 : updM M 84 16 (nI l.length) 85 1 = nI (nT (M 85)) := by rw [updM_ne (by decide)]; exact hn2
  have e2 : updM M 84 16 (nI l.length) 84 16 = nI l.length := by rw [updM_at, if_pos ⟨rfl, rfl⟩]
  have hle : nI (nT (M 85) + l.length) ≤ 7 := nI_le (a := nT (M 85) + l.length) (b := 7) hl (by decide)
  have hrec := r_record (M := updM M 84 16 (nI l.length)) hK (by rw [updM_at, if_neg (by omega)]; exact hk)
  have e85 : recM (updM M 84 16 (nI l.length)) K 85 = M 85 := by rw [rec_85, updM_ne (by decide)]
  have erh : recH (updM M 84 16 (nI l.length)) K = recH M K := by
    unfold recH
    rw [updM_ne (by decide), updM_ne (by decide)]
  obtain ⟨M9, s9, p1, p2, p3, p4⟩ := r_tr_loop hP (n + 1) 0 l (M 85) (recM (updM M 84 16 (nI l.length)) K) none none none hs hx hl e85 hG ⟨by rw [rec_84, if_neg (by omega), updM_at, if_neg (by omega)]; exact hM.1, by rw [rec_ne (by decide) (by decide), updM_ne (by decide)]; exact hM.2⟩
  refine ⟨M9, ?_, p1, p2, by rw [p3 87 (by decide) (by decide), rec_87, erh], by rw [p4 3 (by decide), rec_84, if_pos rfl], fun c a b d => by rw [p3 c a b, rec_ne a d, updM_ne a], fun i a b d => by rw [p4 i b, rec_84, if_neg a, updM_at, if_neg (by omega)]⟩
  skip
  refine x_aload_n dX6_traders_0 rfl ?_
  refine y_callV0 okX6_faultOfTraders lkX6_142 dX6_traders_1 (by decide) rfl ((hfo.more (d' := 5) (by omega))) (by omega) (Nat.le_of_ble_eq_true rfl) rfl rfl (cat8 rfl) ?_
  refine x_bipushv (v := -4) dX6_traders_4 (by decide) ?_
  refine x_icmp_eq 12 dX6_traders_6 (by decide) (fun c_6 => ?_) (fun c_6 => ?_)
  · refine x_aload_n dX6_traders_12 rfl ?_
    refine y_getR fkX6_7 dX6_traders_13 (by decide) rfl rfl ?_
    refine x_iconstv (v := 1) dX6_traders_16 (by decide) ?_
    refine y_ialdn (j := 1) dX6_traders_17 (by decide) rfl (by decide) (by decide) ?_
    rw [e1]
    refine x_aload_n dX6_traders_18 rfl ?_
    refine y_getI fkX6_136 dX6_traders_19 (by decide) rfl rfl ?_
    rw [e2]
    refine x_iadd dX6_traders_22 ?_
    rw [nI_add]
    refine x_bipushv (v := 7) dX6_traders_23 (by decide) ?_
    refine x_icmp_le 31 dX6_traders_25 (by decide) (fun c_25 => ?_) (fun c_25 => ?_)
    · refine x_aload_n dX6_traders_31 rfl ?_
      refine y_callV0 okX6_record lkX6_108 dX6_traders_32 (by decide) rfl ((hrec.more (d' := 5) (by omega))) (by omega) (Nat.le_of_ble_eq_true rfl) rfl rfl (cat8 rfl) ?_
      refine x_iconstv (v := 0) dX6_traders_35 (by decide) ?_
      refine x_istore_n dX6_traders_36 (by decide) rfl ?_
      exact s9.more (by omega)
    · exact absurd hle c_25
  · exact absurd rfl c_6
