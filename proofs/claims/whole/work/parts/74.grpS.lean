theorem r_lb_a {M0 : Mem} {Q : Mem → Prop} {n L t : Nat} {p : Asg} (hn7 : n ≤ 7) (ht : t < n) : ∀ (q : Option Nat) (c : Nat) (s : Sst) (M : Mem) (gv : Int32) (l6 l7 : Option Value), LSt M0 M n (setA p t q) (t + 1) s → gvB gv n (setA p t q) (t + 1) → M 92 t = nI c → (∀ x, q = some x → x < n ∧ ∀ j, j < t → ¬ p j = some x) → (∀ (M' : Mem) (gv' : Int32), LSt M0 M' n p t s → gvB gv' n p t → M' 92 = M 92 → YE 5 mX6_layBest 132 [some (.ref 84), some (.int (nI L)), some (.int (nI n)), some (.int (nI t)), some (.int gv'), some (.int (nI (cnt p t))), some (.int (nI c)), l7] M' Q) → YE 5 mX6_layBest 49 [some (.ref 84), some (.int (nI L)), some (.int (nI n)), some (.int (nI t)), some (.int gv), some (.int (nI (cnt (setA p t q) (t + 1)))), l6, l7] M Q := by
  intro q c s M gv l6 l7 hS hg h92 hq hk
  have hne : ¬ nI t = nI n := fun z => by have := (nI_eq (by omega) (by omega)).mp z; omega
  have h91 : M 91 t = gI (-4) q := by
    have := hS.2.2.1 t (by omega)
    rw [setA_at] at this
    exact this
  rw [cnt_set]
  cases q with
  | none =>
    have hh := hk M gv (LSt_b0 hS) (gvB_back0 hg) rfl
    have h91 : M 91 t = -4 := h91
    have e0 : cnt p t + (if (none : Option Nat).isSome = true then 1 else 0) = cnt p t := rfl
    rw [e0]
    obtain ⟨M9, hh, q9⟩ := hh
    refine ⟨M9, ?_, q9⟩
    skip
    refine x_iload_n dX6_layBest_49 rfl ?_
    refine x_if_lt 242 dX6_layBest_50 (by decide) (fun c_50 => ?_) (fun c_50 => ?_)
    · exact absurd c_50 (nI_pos (by omega))
    · refine x_iload_n dX6_layBest_53 rfl ?_
      refine x_iload_n dX6_layBest_54 rfl ?_
      refine x_icmp_ne 87 dX6_layBest_55 (by decide) (fun c_55 => ?_) (fun c_55 => ?_)
      · refine x_aload_n dX6_layBest_87 rfl ?_
        refine y_getR fkX6_35 dX6_layBest_88 (by decide) rfl rfl ?_
        refine x_iload_n dX6_layBest_91 rfl ?_
        refine y_ialdn (j := t) dX6_layBest_92 (by decide) rfl (ixN (by omega)) (by omega) ?_
        rw [h91]
        refine x_bipushv (v := -4) dX6_layBest_93 (by decide) ?_
        refine x_icmp_eq 124 dX6_layBest_95 (by decide) (fun c_95 => ?_) (fun c_95 => ?_)
        · refine x_aload_n dX6_layBest_124 rfl ?_
          refine y_getR fkX6_38 dX6_layBest_125 (by decide) rfl rfl ?_
          refine x_iload_n dX6_layBest_128 rfl ?_
          refine y_ialdn (j := t) dX6_layBest_129 (by decide) rfl (ixN (by omega)) (by omega) ?_
          rw [h92]
          refine x_istore dX6_layBest_130 (by decide) rfl ?_
          exact hh
        · exact absurd rfl c_95
      · exact absurd c_55 hne
  | some x =>
    have hx := hq x rfl
    have hh := hk (updM M 91 t (-4)) _ (LSt_b hS) (gvB_back hg (by omega) hn7 hx.2) (updM_ne (by decide))
    have h91 : M 91 t = nI x := h91
    have h4 : ¬ nI x = -4 := m4_nI (by omega)
    have e0 : cnt p t + (if (some x : Option Nat).isSome = true then 1 else 0) = cnt p t + 1 := rfl
    rw [e0]
    obtain ⟨M9, hh, q9⟩ := hh
    rw [← nI_m1 (cnt p t)] at hh
    refine ⟨M9, ?_, q9⟩
    have h92' : updM M 91 t (-4) 92 t = nI c := by rw [updM_ne (by decide)]; exact h92
    skip
    refine x_iload_n dX6_layBest_49 rfl ?_
    refine x_if_lt 242 dX6_layBest_50 (by decide) (fun c_50 => ?_) (fun c_50 => ?_)
    · exact absurd c_50 (nI_pos (by omega))
    · refine x_iload_n dX6_layBest_53 rfl ?_
      refine x_iload_n dX6_layBest_54 rfl ?_
      refine x_icmp_ne 87 dX6_layBest_55 (by decide) (fun c_55 => ?_) (fun c_55 => ?_)
      · refine x_aload_n dX6_layBest_87 rfl ?_
        refine y_getR fkX6_35 dX6_layBest_88 (by decide) rfl rfl ?_
        refine x_iload_n dX6_layBest_91 rfl ?_
        refine y_ialdn (j := t) dX6_layBest_92 (by decide) rfl (ixN (by omega)) (by omega) ?_
        rw [h91]
        refine x_bipushv (v := -4) dX6_layBest_93 (by decide) ?_
        refine x_icmp_eq 124 dX6_layBest_95 (by decide) (fun c_95 => ?_) (fun c_95 => ?_)
        · exact absurd c_95 h4
        · refine x_iload dX6_layBest_98 rfl ?_
          refine x_iconstv (v := 1) dX6_layBest_100 (by decide) ?_
          refine x_aload_n dX6_layBest_101 rfl ?_
          refine y_getR fkX6_35 dX6_layBest_102 (by decide) rfl rfl ?_
          refine x_iload_n dX6_layBest_105 rfl ?_
          refine y_ialdn (j := t) dX6_layBest_106 (by decide) rfl (ixN (by omega)) (by omega) ?_
          rw [h91]
          refine x_ishl dX6_layBest_107 ?_
          refine x_iconstv (v := -1) dX6_layBest_108 (by decide) ?_
          refine x_ixor dX6_layBest_109 ?_
          refine x_iand dX6_layBest_110 ?_
          refine x_istore dX6_layBest_111 (by decide) rfl ?_
          refine x_iincv (v := -1) dX6_layBest_113 rfl (by decide) rfl (by decide) ?_
          refine x_aload_n dX6_layBest_116 rfl ?_
          refine y_getR fkX6_35 dX6_layBest_117 (by decide) rfl rfl ?_
          refine x_iload_n dX6_layBest_120 rfl ?_
          refine x_bipushv (v := -4) dX6_layBest_121 (by decide) ?_
          refine y_iastn (j := t) dX6_layBest_123 (by decide) rfl (ixN (by omega)) (by omega) ?_
          refine x_aload_n dX6_layBest_124 rfl ?_
          refine y_getR fkX6_38 dX6_layBest_125 (by decide) rfl rfl ?_
          refine x_iload_n dX6_layBest_128 rfl ?_
          refine y_ialdn (j := t) dX6_layBest_129 (by decide) rfl (ixN (by omega)) (by omega) ?_
          rw [h92']
          refine x_istore dX6_layBest_130 (by decide) rfl ?_
          exact hh
      · exact absurd c_55 hne
theorem r_lb_b {M0 M1 : Mem} {Q : Mem → Prop} {n L k t : Nat} {p : Asg} (hV : WF (M0 85)) (hn : n = nT (M0 85)) (hn7 : n ≤ 7) (ht : t + 1 + k = n) (hF : FJ (canV (M0 85)) n p t)
 (lev : ∀ (o : Option Nat) (s : Sst) (M : Mem) (gv : Int32) (l6 l7 : Option Value), FJ (canV (M0 85)) n (setA p t o) (t + 1) → LSt M0 M n (setA p t o) (t + 1) s → gvB gv n (setA p t o) (t + 1) → M 92 (t + 1) = 0 → (∀ (M' : Mem) (gv' : Int32) (l6 l7 : Option Value), LSt M0 M' n (setA p t o) (t + 1) (DD (canV (M0 85)) n L k (setA p t o) s) → gvB gv' n (setA p t o) (t + 1) → (∀ j, j < t + 1 → M' 92 j = M 92 j) → YE 5 mX6_layBest 49 [some (.ref 84), some (.int (nI L)), some (.int (nI n)), some (.int (nI (t + 1) + -1)), some (.int gv'), some (.int (nI (cnt (setA p t o) (t + 1)))), l6, l7] M' Q) → YE 5 mX6_layBest 49 [some (.ref 84), some (.int (nI L)), some (.int (nI n)), some (.int (nI (t + 1))), some (.int gv), some (.int (nI (cnt (setA p t o) (t + 1)))), l6, l7] M Q) : ∀ (m c : Nat) (s : Sst) (M : Mem) (gv : Int32) (l7 : Option Value), c + m = n + 1 → LSt M0 M n p t s → gvB gv n p t → (∀ j, j < t → M 92 j = M1 92 j) → (∀ (M' : Mem) (gv' : Int32) (l6 l7 : Option Value), LSt M0 M' n p t (DF (fun c s => DD (canV (M0 85)) n L k (setA p t (opt n c)) s) m c s) → gvB gv' n p t → (∀ j, j < t → M' 92 j = M1 92 j) → YE 5 mX6_layBest 49 [some (.ref 84), some (.int (nI L)), some (.int (nI n)), some (.int (nI t + -1)), some (.int gv'), some (.int (nI (cnt p t))), l6, l7] M' Q) → YE 5 mX6_layBest 132 [some (.ref 84), some (.int (nI L)), some (.int (nI n)), some (.int (nI t)), some (.int gv), some (.int (nI (cnt p t))), some (.int (nI c)), l7] M Q := by
  have hct := cnt_le p t
  intro m
  induction m with
  | zero =>
    intro c s M gv l7 hc hS hg h92 hk
    have h11 := hS.2.2.2.2.1
    have h8 := hS.2.2.2.2.2.2
    have h11' : ∀ x : Int32, updM M 92 t x 84 11 = nI s.1 - 1 := fun x => by rw [updM_ne (by decide)]; exact h11
    have hbk : ∀ l7 : Option Value, YE 5 mX6_layBest 49 [some (.ref 84), some (.int (nI L)), some (.int (nI n)), some (.int (nI t + -1)), some (.int gv), some (.int (nI (cnt p t))), some (.int (nI c)), l7] (updM M 92 t (nI c + 1)) Q := fun l7 => hk _ gv _ l7 (LSt_92 hS) hg (fun j hj => by rw [updM_at, if_neg (by omega)]; exact h92 j hj)
    have hmay : True := trivial
    by_cases hb2 : nI s.1 - 1 < nI (cnt p t + n - t)
    · obtain ⟨M9, hh, q9⟩ := hbk (some (.int 0))
      refine ⟨M9, ?_, q9⟩
      skip
      refine x_iload dX6_layBest_132 rfl ?_
      refine x_iload_n dX6_layBest_134 rfl ?_
      refine x_icmp_ge 156 dX6_layBest_135 (by decide) (fun c_135 => ?_) (fun c_135 => ?_)
      · refine x_aload_n dX6_layBest_156 rfl ?_
        refine y_getR fkX6_38 dX6_layBest_157 (by decide) rfl rfl ?_
        refine x_iload_n dX6_layBest_160 rfl ?_
        refine x_iload dX6_layBest_161 rfl ?_
        refine x_iconstv (v := 1) dX6_layBest_163 (by decide) ?_
        refine x_iadd dX6_layBest_164 ?_
        refine y_iastn (j := t) dX6_layBest_165 (by decide) rfl (ixN (by omega)) (by omega) ?_
        refine x_iload dX6_layBest_166 rfl ?_
        refine x_iload_n dX6_layBest_168 rfl ?_
        refine x_iadd dX6_layBest_169 ?_
        refine x_iload_n dX6_layBest_170 rfl ?_
        refine x_isub dX6_layBest_171 ?_
        rw [nI_diff (by omega)]
        refine x_aload_n dX6_layBest_172 rfl ?_
        refine y_getI fkX6_76 dX6_layBest_173 (by decide) rfl rfl ?_
        rw [h11']
        refine x_icmp_gt 183 dX6_layBest_176 (by decide) (fun c_176 => ?_) (fun c_176 => ?_)
        · refine x_iconstv (v := 0) dX6_layBest_183 (by decide) ?_
          refine x_istore dX6_layBest_184 (by decide) rfl ?_
          refine x_iload dX6_layBest_186 rfl ?_
          refine x_iload_n dX6_layBest_188 rfl ?_
          refine x_icmp_gt 197 dX6_layBest_189 (by decide) (fun c_189 => ?_) (fun c_189 => ?_)
          · refine x_iincv (v := -1) dX6_layBest_197 rfl (by decide) rfl (by decide) ?_
            refine x_goto 239 dX6_layBest_200 (by decide) ?_
            refine x_goto 49 dX6_layBest_239 (by decide) ?_
            exact hh
          · exact absurd (nI_lt (a := n) (b := c) (by omega) (by omega)) c_189
        · exact absurd hb2 c_176
      · exact absurd (nI_le (a := n) (b := c) (by omega) (by omega)) c_135
    · obtain ⟨M9, hh, q9⟩ := hbk (some (.int 1))
      refine ⟨M9, ?_, q9⟩
      skip
      refine x_iload dX6_layBest_132 rfl ?_
      refine x_iload_n dX6_layBest_134 rfl ?_
      refine x_icmp_ge 156 dX6_layBest_135 (by decide) (fun c_135 => ?_) (fun c_135 => ?_)
      · refine x_aload_n dX6_layBest_156 rfl ?_
        refine y_getR fkX6_38 dX6_layBest_157 (by decide) rfl rfl ?_
        refine x_iload_n dX6_layBest_160 rfl ?_
        refine x_iload dX6_layBest_161 rfl ?_
        refine x_iconstv (v := 1) dX6_layBest_163 (by decide) ?_
        refine x_iadd dX6_layBest_164 ?_
        refine y_iastn (j := t) dX6_layBest_165 (by decide) rfl (ixN (by omega)) (by omega) ?_
        refine x_iload dX6_layBest_166 rfl ?_
        refine x_iload_n dX6_layBest_168 rfl ?_
        refine x_iadd dX6_layBest_169 ?_
        refine x_iload_n dX6_layBest_170 rfl ?_
        refine x_isub dX6_layBest_171 ?_
        rw [nI_diff (by omega)]
        refine x_aload_n dX6_layBest_172 rfl ?_
        refine y_getI fkX6_76 dX6_layBest_173 (by decide) rfl rfl ?_
        rw [h11']
        refine x_icmp_gt 183 dX6_layBest_176 (by decide) (fun c_176 => ?_) (fun c_176 => ?_)
        · exact absurd c_176 hb2
        · refine x_iconstv (v := 1) dX6_layBest_179 (by decide) ?_
          refine x_goto 184 dX6_layBest_180 (by decide) ?_
          refine x_istore dX6_layBest_184 (by decide) rfl ?_
          refine x_iload dX6_layBest_186 rfl ?_
          refine x_iload_n dX6_layBest_188 rfl ?_
          refine x_icmp_gt 197 dX6_layBest_189 (by decide) (fun c_189 => ?_) (fun c_189 => ?_)
          · refine x_iincv (v := -1) dX6_layBest_197 rfl (by decide) rfl (by decide) ?_
            refine x_goto 239 dX6_layBest_200 (by decide) ?_
            refine x_goto 49 dX6_layBest_239 (by decide) ?_
            exact hh
          · exact absurd (nI_lt (a := n) (b := c) (by omega) (by omega)) c_189
      · exact absurd (nI_le (a := n) (b := c) (by omega) (by omega)) c_135
  | succ m ih =>
    intro c s M gv l7 hc hS hg h92 hk
    have h11 := hS.2.2.2.2.1
    have h8 := hS.2.2.2.2.2.2
    have h85 : M 85 = M0 85 := hS.1 85 (by decide) (by decide) (by decide) (by decide)
    have hge : ¬ (nI s.1 - 1 < nI (cnt p t + n - t)) → cnt p t + n - t < s.1 := fun z => (cmp_m1 (by omega) (by omega)).mp (Int32.not_lt.mp z)
    have h11' : ∀ x : Int32, updM M 92 t x 84 11 = nI s.1 - 1 := fun x => by rw [updM_ne (by decide)]; exact h11
    have hbk : ¬ (nI s.1 - 1 < nI (cnt p t + n - t)) → ∀ l7 : Option Value, YE 5 mX6_layBest 49 [some (.ref 84), some (.int (nI L)), some (.int (nI n)), some (.int (nI t + -1)), some (.int gv), some (.int (nI (cnt p t))), some (.int (nI c)), l7] (updM M 92 t (nI c + 1)) Q := fun z l7 => by
      refine hk _ gv _ l7 ?_ hg (fun j hj => by rw [updM_at, if_neg (by omega)]; exact h92 j hj)
      rw [lev_same ht (hge z)]
      exact LSt_92 hS
    have hnb : ∀ (o : Option Nat) (s' : Sst), s' = DD (canV (M0 85)) n L k (setA p t o) s → DF (fun c s => DD (canV (M0 85)) n L k (setA p t (opt n c)) s) m (c + 1) s' = DF (fun c s => DD (canV (M0 85)) n L k (setA p t (opt n c)) s) (m + 1) c s → (∀ x, o = some x → x < n ∧ ∀ j, j < t → ¬ p j = some x) → ∀ M2 : Mem, M2 92 t = nI (c + 1) → (∀ j, j < t → M2 92 j = M1 92 j) → ∀ (M' : Mem) (gv' : Int32) (l6 l7 : Option Value), LSt M0 M' n (setA p t o) (t + 1) s' → gvB gv' n (setA p t o) (t + 1) → (∀ j, j < t + 1 → M' 92 j = M2 92 j) → YE 5 mX6_layBest 49 [some (.ref 84), some (.int (nI L)), some (.int (nI n)), some (.int (nI (t + 1) + -1)), some (.int gv'), some (.int (nI (cnt (setA p t o) (t + 1)))), l6, l7] M' Q := by
      intro o s' hs' hd ho M2 e1 e2 M' gv' l6 l7 hS' hg' h92'
      rw [nI_m1]
      refine r_lb_a hn7 (by omega) o (c + 1) s' M' gv' l6 l7 hS' hg' ((h92' t (by omega)).trans e1) ho (fun M3 gv3 hS3 hg3 h3 => ?_)
      exact ih (c + 1) s' M3 gv3 l7 (by omega) hS3 hg3 (fun j hj => by rw [h3, h92' j (by omega)]; exact e2 j hj) (by rw [hd]; exact hk)
    by_cases hcn : c < n
    · have hop : opt n c = some c := if_pos hcn
      have hnle : ¬ nI n ≤ nI c := nI_ge hcn (by omega)
      have hngt : ¬ nI n < nI c := nI_nlt (by omega) (by omega)
      have hmay := r_may (M := M) (by rw [h85]; exact hV) (t := t) (g := c) (by rw [h85, ← hn]; omega) (by rw [h85, ← hn]; exact hcn) (gv := gv)
      rw [h85] at hmay
      by_cases hm : (!bitI gv c && canV (M0 85) t c) = true
      · have hm2 := hm
        rw [Bool.and_eq_true] at hm2
        have hfree : ∀ j, j < t → ¬ p j = some c := fun j hj hp => by
          have := (hg c hcn).mpr ⟨j, hj, hp⟩
          rw [this] at hm2
          exact absurd hm2.1 (by decide)
        rw [hm] at hmay
        have hgo : YE 5 mX6_layBest 49 [some (.ref 84), some (.int (nI L)), some (.int (nI n)), some (.int (nI t + 1)), some (.int (gv ||| 1 <<< (nI c &&& 31))), some (.int (nI (cnt p t) + 1)), some (.int (nI c)), some (.int 0)] (updM (updM (updM M 92 t (nI c + 1)) 91 t (nI c)) 92 (t + 1) 0) Q := by
          have hl := lev (some c) s (updM (updM (updM M 92 t (nI c + 1)) 91 t (nI c)) 92 (t + 1) 0) (gv ||| 1 <<< (nI c &&& 31)) (some (.int (nI c))) (some (.int 0)) (FJ_some hF hcn hm2.2 hfree) (LSt_92 (LSt_91 (o := some c) (LSt_92 hS))) (gvB_some hg (by omega) hn7) (by rw [updM_at, if_pos ⟨rfl, rfl⟩])
            (hnb (some c) _ rfl (by rw [DF, hop]) (fun x hx => by cases hx; exact ⟨hcn, hfree⟩) _ (by rw [updM_at, if_neg (by omega), updM_ne (by decide), updM_at, if_pos ⟨rfl, rfl⟩, nI_1]) (fun j hj => by rw [updM_at, if_neg (by omega), updM_ne (by decide), updM_at, if_neg (by omega)]; exact h92 j hj))
          rw [cnt_set] at hl
          rw [nI_1, nI_1 (cnt p t)]
          exact hl
        by_cases hb2 : nI s.1 - 1 < nI (cnt p t + n - t)
        · obtain ⟨M9, hh, q9⟩ := hgo
          refine ⟨M9, ?_, q9⟩
          skip
          refine x_iload dX6_layBest_132 rfl ?_
          refine x_iload_n dX6_layBest_134 rfl ?_
          refine x_icmp_ge 156 dX6_layBest_135 (by decide) (fun c_135 => ?_) (fun c_135 => ?_)
          · exact absurd c_135 hnle
          · refine x_aload_n dX6_layBest_138 rfl ?_
            refine x_iload_n dX6_layBest_139 rfl ?_
            refine x_iload dX6_layBest_140 rfl ?_
            refine x_iload dX6_layBest_142 rfl ?_
            refine y_callV (as := [_, _, _]) okX6_may lkX6_89 dX6_layBest_144 rfl (by decide) rfl (hmay) (by omega) rfl (by simp [Value.category]) (Nat.le_of_ble_eq_true rfl) rfl rfl (cat8 rfl) ?_
            refine x_if_ne 156 dX6_layBest_147 (by decide) (fun c_147 => ?_) (fun c_147 => ?_)
            · refine x_aload_n dX6_layBest_156 rfl ?_
              refine y_getR fkX6_38 dX6_layBest_157 (by decide) rfl rfl ?_
              refine x_iload_n dX6_layBest_160 rfl ?_
              refine x_iload dX6_layBest_161 rfl ?_
              refine x_iconstv (v := 1) dX6_layBest_163 (by decide) ?_
              refine x_iadd dX6_layBest_164 ?_
              refine y_iastn (j := t) dX6_layBest_165 (by decide) rfl (ixN (by omega)) (by omega) ?_
              refine x_iload dX6_layBest_166 rfl ?_
              refine x_iload_n dX6_layBest_168 rfl ?_
              refine x_iadd dX6_layBest_169 ?_
              refine x_iload_n dX6_layBest_170 rfl ?_
              refine x_isub dX6_layBest_171 ?_
              rw [nI_diff (by omega)]
              refine x_aload_n dX6_layBest_172 rfl ?_
              refine y_getI fkX6_76 dX6_layBest_173 (by decide) rfl rfl ?_
              rw [h11']
              refine x_icmp_gt 183 dX6_layBest_176 (by decide) (fun c_176 => ?_) (fun c_176 => ?_)
              · refine x_iconstv (v := 0) dX6_layBest_183 (by decide) ?_
                refine x_istore dX6_layBest_184 (by decide) rfl ?_
                refine x_iload dX6_layBest_186 rfl ?_
                refine x_iload_n dX6_layBest_188 rfl ?_
                refine x_icmp_gt 197 dX6_layBest_189 (by decide) (fun c_189 => ?_) (fun c_189 => ?_)
                · exact absurd c_189 hngt
                · refine x_iload dX6_layBest_192 rfl ?_
                  refine x_if_eq 203 dX6_layBest_194 (by decide) (fun c_194 => ?_) (fun c_194 => ?_)
                  · refine x_iload dX6_layBest_203 rfl ?_
                    refine x_iload_n dX6_layBest_205 rfl ?_
                    refine x_icmp_ge 229 dX6_layBest_206 (by decide) (fun c_206 => ?_) (fun c_206 => ?_)
                    · exact absurd c_206 hnle
                    · refine x_aload_n dX6_layBest_209 rfl ?_
                      refine y_getR fkX6_35 dX6_layBest_210 (by decide) rfl rfl ?_
                      refine x_iload_n dX6_layBest_213 rfl ?_
                      refine x_iload dX6_layBest_214 rfl ?_
                      refine y_iastn (j := t) dX6_layBest_216 (by decide) rfl (ixN (by omega)) (by omega) ?_
                      refine x_iload dX6_layBest_217 rfl ?_
                      refine x_iconstv (v := 1) dX6_layBest_219 (by decide) ?_
                      refine x_iload dX6_layBest_220 rfl ?_
                      refine x_ishl dX6_layBest_222 ?_
                      refine x_ior dX6_layBest_223 ?_
                      refine x_istore dX6_layBest_224 (by decide) rfl ?_
                      refine x_iincv (v := 1) dX6_layBest_226 rfl (by decide) rfl (by decide) ?_
                      refine x_iincv (v := 1) dX6_layBest_229 rfl (by decide) rfl (by decide) ?_
                      refine x_aload_n dX6_layBest_232 rfl ?_
                      refine y_getR fkX6_38 dX6_layBest_233 (by decide) rfl rfl ?_
                      refine x_iload_n dX6_layBest_236 rfl ?_
                      refine x_iconstv (v := 0) dX6_layBest_237 (by decide) ?_
                      refine y_iastn (j := (t + 1)) dX6_layBest_238 (by decide) rfl (by rw [nI_1]; exact ixN (by omega)) (by omega) ?_
                      refine x_goto 49 dX6_layBest_239 (by decide) ?_
                      exact hh
                  · exact absurd c_194 (by decide)
              · exact absurd hb2 c_176
            · exact absurd c_147 (by decide)
        · obtain ⟨M9, hh, q9⟩ := hbk hb2 (some (.int 1))
          refine ⟨M9, ?_, q9⟩
          skip
          refine x_iload dX6_layBest_132 rfl ?_
          refine x_iload_n dX6_layBest_134 rfl ?_
          refine x_icmp_ge 156 dX6_layBest_135 (by decide) (fun c_135 => ?_) (fun c_135 => ?_)
          · exact absurd c_135 hnle
          · refine x_aload_n dX6_layBest_138 rfl ?_
            refine x_iload_n dX6_layBest_139 rfl ?_
            refine x_iload dX6_layBest_140 rfl ?_
            refine x_iload dX6_layBest_142 rfl ?_
            refine y_callV (as := [_, _, _]) okX6_may lkX6_89 dX6_layBest_144 rfl (by decide) rfl (hmay) (by omega) rfl (by simp [Value.category]) (Nat.le_of_ble_eq_true rfl) rfl rfl (cat8 rfl) ?_
            refine x_if_ne 156 dX6_layBest_147 (by decide) (fun c_147 => ?_) (fun c_147 => ?_)
            · refine x_aload_n dX6_layBest_156 rfl ?_
              refine y_getR fkX6_38 dX6_layBest_157 (by decide) rfl rfl ?_
              refine x_iload_n dX6_layBest_160 rfl ?_
              refine x_iload dX6_layBest_161 rfl ?_
              refine x_iconstv (v := 1) dX6_layBest_163 (by decide) ?_
              refine x_iadd dX6_layBest_164 ?_
              refine y_iastn (j := t) dX6_layBest_165 (by decide) rfl (ixN (by omega)) (by omega) ?_
              refine x_iload dX6_layBest_166 rfl ?_
              refine x_iload_n dX6_layBest_168 rfl ?_
              refine x_iadd dX6_layBest_169 ?_
              refine x_iload_n dX6_layBest_170 rfl ?_
              refine x_isub dX6_layBest_171 ?_
              rw [nI_diff (by omega)]
              refine x_aload_n dX6_layBest_172 rfl ?_
              refine y_getI fkX6_76 dX6_layBest_173 (by decide) rfl rfl ?_
              rw [h11']
              refine x_icmp_gt 183 dX6_layBest_176 (by decide) (fun c_176 => ?_) (fun c_176 => ?_)
              · exact absurd c_176 hb2
              · refine x_iconstv (v := 1) dX6_layBest_179 (by decide) ?_
                refine x_goto 184 dX6_layBest_180 (by decide) ?_
                refine x_istore dX6_layBest_184 (by decide) rfl ?_
                refine x_iload dX6_layBest_186 rfl ?_
                refine x_iload_n dX6_layBest_188 rfl ?_
                refine x_icmp_gt 197 dX6_layBest_189 (by decide) (fun c_189 => ?_) (fun c_189 => ?_)
                · exact absurd c_189 hngt
                · refine x_iload dX6_layBest_192 rfl ?_
                  refine x_if_eq 203 dX6_layBest_194 (by decide) (fun c_194 => ?_) (fun c_194 => ?_)
                  · exact absurd c_194 (by decide)
                  · refine x_iincv (v := -1) dX6_layBest_197 rfl (by decide) rfl (by decide) ?_
                    refine x_goto 239 dX6_layBest_200 (by decide) ?_
                    refine x_goto 49 dX6_layBest_239 (by decide) ?_
                    exact hh
            · exact absurd c_147 (by decide)
      · have hm0 : (!bitI gv c && canV (M0 85) t c) = false := by simpa using hm
        rw [hm0] at hmay
        have hi := ih (c + 1) s M gv l7 (by omega) hS hg h92 (by
          have : DF (fun c s => DD (canV (M0 85)) n L k (setA p t (opt n c)) s) m (c + 1) s = DF (fun c s => DD (canV (M0 85)) n L k (setA p t (opt n c)) s) (m + 1) c s := by
            rw [DF, lev_skip ht hcn]
            rw [Bool.and_eq_false_iff] at hm0
            rcases hm0 with h | h
            · exact Or.inr ((hg c hcn).mp (by simpa using h))
            · exact Or.inl h
          rw [this]
          exact hk)
        obtain ⟨M9, hi, q9⟩ := hi
        refine ⟨M9, ?_, q9⟩
        skip
        refine x_iload dX6_layBest_132 rfl ?_
        refine x_iload_n dX6_layBest_134 rfl ?_
        refine x_icmp_ge 156 dX6_layBest_135 (by decide) (fun c_135 => ?_) (fun c_135 => ?_)
        · exact absurd c_135 hnle
        · refine x_aload_n dX6_layBest_138 rfl ?_
          refine x_iload_n dX6_layBest_139 rfl ?_
          refine x_iload dX6_layBest_140 rfl ?_
          refine x_iload dX6_layBest_142 rfl ?_
          refine y_callV (as := [_, _, _]) okX6_may lkX6_89 dX6_layBest_144 rfl (by decide) rfl (hmay) (by omega) rfl (by simp [Value.category]) (Nat.le_of_ble_eq_true rfl) rfl rfl (cat8 rfl) ?_
          refine x_if_ne 156 dX6_layBest_147 (by decide) (fun c_147 => ?_) (fun c_147 => ?_)
          · exact absurd rfl c_147
          · refine x_iincv (v := 1) dX6_layBest_150 rfl (by decide) rfl (by decide) ?_
            refine x_goto 132 dX6_layBest_153 (by decide) ?_
            rw [nI_1]
            exact hi
    · have he : c = n := by omega
      subst he
      have hop : opt c c = none := if_neg (by omega)
      have hmay : True := trivial
      have hgo : YE 5 mX6_layBest 49 [some (.ref 84), some (.int (nI L)), some (.int (nI c)), some (.int (nI t + 1)), some (.int gv), some (.int (nI (cnt p t))), some (.int (nI c)), some (.int 0)] (updM (updM M 92 t (nI c + 1)) 92 (t + 1) 0) Q := by
        have hl := lev none s (updM (updM M 92 t (nI c + 1)) 92 (t + 1) 0) gv (some (.int (nI c))) (some (.int 0)) (FJ_none hF) (LSt_92 (LSt_92 (LSt_f (by omega) hS))) (gvB_none hg) (by rw [updM_at, if_pos ⟨rfl, rfl⟩])
          (hnb none _ rfl (by rw [DF, hop]) (fun x hx => by cases hx) _ (by rw [updM_at, if_neg (by omega), updM_at, if_pos ⟨rfl, rfl⟩, nI_1]) (fun j hj => by rw [updM_at, if_neg (by omega), updM_at, if_neg (by omega)]; exact h92 j hj))
        rw [cnt_set] at hl
        rw [nI_1]
        exact hl
      by_cases hb2 : nI s.1 - 1 < nI (cnt p t + c - t)
      · obtain ⟨M9, hh, q9⟩ := hgo
        refine ⟨M9, ?_, q9⟩
        skip
        refine x_iload dX6_layBest_132 rfl ?_
        refine x_iload_n dX6_layBest_134 rfl ?_
        refine x_icmp_ge 156 dX6_layBest_135 (by decide) (fun c_135 => ?_) (fun c_135 => ?_)
        · refine x_aload_n dX6_layBest_156 rfl ?_
          refine y_getR fkX6_38 dX6_layBest_157 (by decide) rfl rfl ?_
          refine x_iload_n dX6_layBest_160 rfl ?_
          refine x_iload dX6_layBest_161 rfl ?_
          refine x_iconstv (v := 1) dX6_layBest_163 (by decide) ?_
          refine x_iadd dX6_layBest_164 ?_
          refine y_iastn (j := t) dX6_layBest_165 (by decide) rfl (ixN (by omega)) (by omega) ?_
          refine x_iload dX6_layBest_166 rfl ?_
          refine x_iload_n dX6_layBest_168 rfl ?_
          refine x_iadd dX6_layBest_169 ?_
          refine x_iload_n dX6_layBest_170 rfl ?_
          refine x_isub dX6_layBest_171 ?_
          rw [nI_diff (by omega)]
          refine x_aload_n dX6_layBest_172 rfl ?_
          refine y_getI fkX6_76 dX6_layBest_173 (by decide) rfl rfl ?_
          rw [h11']
          refine x_icmp_gt 183 dX6_layBest_176 (by decide) (fun c_176 => ?_) (fun c_176 => ?_)
          · refine x_iconstv (v := 0) dX6_layBest_183 (by decide) ?_
            refine x_istore dX6_layBest_184 (by decide) rfl ?_
            refine x_iload dX6_layBest_186 rfl ?_
            refine x_iload_n dX6_layBest_188 rfl ?_
            refine x_icmp_gt 197 dX6_layBest_189 (by decide) (fun c_189 => ?_) (fun c_189 => ?_)
            · exact absurd c_189 Int32.lt_irrefl
            · refine x_iload dX6_layBest_192 rfl ?_
              refine x_if_eq 203 dX6_layBest_194 (by decide) (fun c_194 => ?_) (fun c_194 => ?_)
              · refine x_iload dX6_layBest_203 rfl ?_
                refine x_iload_n dX6_layBest_205 rfl ?_
                refine x_icmp_ge 229 dX6_layBest_206 (by decide) (fun c_206 => ?_) (fun c_206 => ?_)
                · refine x_iincv (v := 1) dX6_layBest_229 rfl (by decide) rfl (by decide) ?_
                  refine x_aload_n dX6_layBest_232 rfl ?_
                  refine y_getR fkX6_38 dX6_layBest_233 (by decide) rfl rfl ?_
                  refine x_iload_n dX6_layBest_236 rfl ?_
                  refine x_iconstv (v := 0) dX6_layBest_237 (by decide) ?_
                  refine y_iastn (j := (t + 1)) dX6_layBest_238 (by decide) rfl (by rw [nI_1]; exact ixN (by omega)) (by omega) ?_
                  refine x_goto 49 dX6_layBest_239 (by decide) ?_
                  exact hh
                · exact absurd (Int32.le_refl _) c_206
              · exact absurd c_194 (by decide)
          · exact absurd hb2 c_176
        · exact absurd (Int32.le_refl _) c_135
      · obtain ⟨M9, hh, q9⟩ := hbk hb2 (some (.int 1))
        refine ⟨M9, ?_, q9⟩
        skip
        refine x_iload dX6_layBest_132 rfl ?_
        refine x_iload_n dX6_layBest_134 rfl ?_
        refine x_icmp_ge 156 dX6_layBest_135 (by decide) (fun c_135 => ?_) (fun c_135 => ?_)
        · refine x_aload_n dX6_layBest_156 rfl ?_
          refine y_getR fkX6_38 dX6_layBest_157 (by decide) rfl rfl ?_
          refine x_iload_n dX6_layBest_160 rfl ?_
          refine x_iload dX6_layBest_161 rfl ?_
          refine x_iconstv (v := 1) dX6_layBest_163 (by decide) ?_
          refine x_iadd dX6_layBest_164 ?_
          refine y_iastn (j := t) dX6_layBest_165 (by decide) rfl (ixN (by omega)) (by omega) ?_
          refine x_iload dX6_layBest_166 rfl ?_
          refine x_iload_n dX6_layBest_168 rfl ?_
          refine x_iadd dX6_layBest_169 ?_
          refine x_iload_n dX6_layBest_170 rfl ?_
          refine x_isub dX6_layBest_171 ?_
          rw [nI_diff (by omega)]
          refine x_aload_n dX6_layBest_172 rfl ?_
          refine y_getI fkX6_76 dX6_layBest_173 (by decide) rfl rfl ?_
          rw [h11']
          refine x_icmp_gt 183 dX6_layBest_176 (by decide) (fun c_176 => ?_) (fun c_176 => ?_)
          · exact absurd c_176 hb2
          · refine x_iconstv (v := 1) dX6_layBest_179 (by decide) ?_
            refine x_goto 184 dX6_layBest_180 (by decide) ?_
            refine x_istore dX6_layBest_184 (by decide) rfl ?_
            refine x_iload dX6_layBest_186 rfl ?_
            refine x_iload_n dX6_layBest_188 rfl ?_
            refine x_icmp_gt 197 dX6_layBest_189 (by decide) (fun c_189 => ?_) (fun c_189 => ?_)
            · exact absurd c_189 Int32.lt_irrefl
            · refine x_iload dX6_layBest_192 rfl ?_
              refine x_if_eq 203 dX6_layBest_194 (by decide) (fun c_194 => ?_) (fun c_194 => ?_)
              · exact absurd c_194 (by decide)
              · refine x_iincv (v := -1) dX6_layBest_197 rfl (by decide) rfl (by decide) ?_
                refine x_goto 239 dX6_layBest_200 (by decide) ?_
                refine x_goto 49 dX6_layBest_239 (by decide) ?_
                exact hh
        · exact absurd (Int32.le_refl _) c_135
theorem r_lb {M0 : Mem} {Q : Mem → Prop} {n L : Nat} (hV : WF (M0 85)) (hn : n = nT (M0 85)) (hL : 1 ≤ L ∧ L ≤ 7) : ∀ (k t : Nat) (p : Asg) (s : Sst) (M1 : Mem) (gv : Int32) (l6 l7 : Option Value), t + k = n → FJ (canV (M0 85)) n p t → LSt M0 M1 n p t s → gvB gv n p t → M1 92 t = 0 → (∀ (M' : Mem) (gv' : Int32) (l6 l7 : Option Value), LSt M0 M' n p t (DD (canV (M0 85)) n L k p s) → gvB gv' n p t → (∀ j, j < t → M' 92 j = M1 92 j) → YE 5 mX6_layBest 49 [some (.ref 84), some (.int (nI L)), some (.int (nI n)), some (.int (nI t + -1)), some (.int gv'), some (.int (nI (cnt p t))), l6, l7] M' Q) → YE 5 mX6_layBest 49 [some (.ref 84), some (.int (nI L)), some (.int (nI n)), some (.int (nI t)), some (.int gv), some (.int (nI (cnt p t))), l6, l7] M1 Q := by
  have hn7 : n ≤ 7 := by rw [hn]; exact (WF_n hV).1
  intro k
  induction k with
  | zero =>
    intro t p s M gv l6 l7 ht hF hS hg h92 hk
    have he : t = n := by omega
    subst he
    have h11 := hS.2.2.2.2.1
    have h8 := hS.2.2.2.2.2.2
    have hc := cnt_le p t
    have h85 : M 85 = M0 85 := hS.1 85 (by decide) (by decide) (by decide) (by decide)
    have hk1 : LSt M0 M t p t (DD (canV (M0 85)) t L 0 p s) → ∀ l6 l7 : Option Value, YE 5 mX6_layBest 49 [some (.ref 84), some (.int (nI L)), some (.int (nI t)), some (.int (nI t + -1)), some (.int gv), some (.int (nI (cnt p t))), l6, l7] M Q := fun z l6 l7 => hk M gv l6 l7 z hg (fun _ _ => rfl)
    have hA : nI (cnt p t) ≤ nI s.1 - 1 → DD (canV (M0 85)) t L 0 p s = s := fun z => by
      rw [DD]
      exact leaf_s (fun _ => (cmp_m1 (by omega) (by omega)).mp z)
    have hB : okN p L t = false → DD (canV (M0 85)) t L 0 p s = s := fun z => by
      rw [DD]
      refine leaf_s (fun q => ?_)
      rw [(FJ_Val hF).mp q] at z
      cases z
    have hC : ¬ nI (cnt p t) ≤ nI s.1 - 1 → okN p L t = true → DD (canV (M0 85)) t L 0 p s = (cnt p t + 1, p) := fun y z => by
      rw [DD]
      refine leaf_n ((FJ_Val hF).mpr z) ?_
      have : ¬ cnt p t < s.1 := fun q => y ((cmp_m1 (by omega) (by omega)).mpr q)
      omega
    have har := r_ar (M := M) hn7 hL (by rw [h85, hn]; exact (WF_n hV).2) (fun j hj => hS.2.2.1 j hj) (fun j x hj hx => (hF.1 j x hj hx).1)
    by_cases hz : nI (cnt p t) ≤ nI s.1 - 1
    · obtain ⟨M9, hh, q9⟩ := hk1 (by rw [hA hz]; exact hS) l6 l7
      refine ⟨M9, ?_, q9⟩
      skip
      refine x_iload_n dX6_layBest_49 rfl ?_
      refine x_if_lt 242 dX6_layBest_50 (by decide) (fun c_50 => ?_) (fun c_50 => ?_)
      · exact absurd c_50 (nI_pos (by omega))
      · refine x_iload_n dX6_layBest_53 rfl ?_
        refine x_iload_n dX6_layBest_54 rfl ?_
        refine x_icmp_ne 87 dX6_layBest_55 (by decide) (fun c_55 => ?_) (fun c_55 => ?_)
        · exact absurd rfl c_55
        · refine x_iload dX6_layBest_58 rfl ?_
          refine x_aload_n dX6_layBest_60 rfl ?_
          refine y_getI fkX6_76 dX6_layBest_61 (by decide) rfl rfl ?_
          rw [h11]
          refine x_icmp_le 81 dX6_layBest_64 (by decide) (fun c_64 => ?_) (fun c_64 => ?_)
          · refine x_iincv (v := -1) dX6_layBest_81 rfl (by decide) rfl (by decide) ?_
            refine x_goto 49 dX6_layBest_84 (by decide) ?_
            exact hh
          · exact absurd hz c_64
    · cases ho : okN p L t with
      | false =>
        rw [ho] at har
        obtain ⟨M9, hh, q9⟩ := hk1 (by rw [hB ho]; exact hS) l6 l7
        refine ⟨M9, ?_, q9⟩
        skip
        refine x_iload_n dX6_layBest_49 rfl ?_
        refine x_if_lt 242 dX6_layBest_50 (by decide) (fun c_50 => ?_) (fun c_50 => ?_)
        · exact absurd c_50 (nI_pos (by omega))
        · refine x_iload_n dX6_layBest_53 rfl ?_
          refine x_iload_n dX6_layBest_54 rfl ?_
          refine x_icmp_ne 87 dX6_layBest_55 (by decide) (fun c_55 => ?_) (fun c_55 => ?_)
          · exact absurd rfl c_55
          · refine x_iload dX6_layBest_58 rfl ?_
            refine x_aload_n dX6_layBest_60 rfl ?_
            refine y_getI fkX6_76 dX6_layBest_61 (by decide) rfl rfl ?_
            rw [h11]
            refine x_icmp_le 81 dX6_layBest_64 (by decide) (fun c_64 => ?_) (fun c_64 => ?_)
            · exact absurd c_64 hz
            · refine x_aload_n dX6_layBest_67 rfl ?_
              refine x_iload_n dX6_layBest_68 rfl ?_
              refine y_callV (as := [_]) okX6_areCircles lkX6_86 dX6_layBest_69 rfl (by decide) rfl (har) (by omega) rfl (by simp [Value.category]) (Nat.le_of_ble_eq_true rfl) rfl rfl (cat8 rfl) ?_
              refine x_if_eq 81 dX6_layBest_72 (by decide) (fun c_72 => ?_) (fun c_72 => ?_)
              · refine x_iincv (v := -1) dX6_layBest_81 rfl (by decide) rfl (by decide) ?_
                refine x_goto 49 dX6_layBest_84 (by decide) ?_
                exact hh
              · exact absurd rfl c_72
      | true =>
        rw [ho] at har
        have hC' := hC hz ho
        rw [hC'] at hk
        obtain ⟨M9, hh, q9⟩ := hk _ gv l6 l7 (LSt_keep hn7 hS) hg (fun _ _ => by rw [row_ne (by decide), updM_ne (by decide)])
        refine ⟨M9, ?_, q9⟩
        skip
        refine x_iload_n dX6_layBest_49 rfl ?_
        refine x_if_lt 242 dX6_layBest_50 (by decide) (fun c_50 => ?_) (fun c_50 => ?_)
        · exact absurd c_50 (nI_pos (by omega))
        · refine x_iload_n dX6_layBest_53 rfl ?_
          refine x_iload_n dX6_layBest_54 rfl ?_
          refine x_icmp_ne 87 dX6_layBest_55 (by decide) (fun c_55 => ?_) (fun c_55 => ?_)
          · exact absurd rfl c_55
          · refine x_iload dX6_layBest_58 rfl ?_
            refine x_aload_n dX6_layBest_60 rfl ?_
            refine y_getI fkX6_76 dX6_layBest_61 (by decide) rfl rfl ?_
            rw [h11]
            refine x_icmp_le 81 dX6_layBest_64 (by decide) (fun c_64 => ?_) (fun c_64 => ?_)
            · exact absurd c_64 hz
            · refine x_aload_n dX6_layBest_67 rfl ?_
              refine x_iload_n dX6_layBest_68 rfl ?_
              refine y_callV (as := [_]) okX6_areCircles lkX6_86 dX6_layBest_69 rfl (by decide) rfl (har) (by omega) rfl (by simp [Value.category]) (Nat.le_of_ble_eq_true rfl) rfl rfl (cat8 rfl) ?_
              refine x_if_eq 81 dX6_layBest_72 (by decide) (fun c_72 => ?_) (fun c_72 => ?_)
              · exact absurd c_72 (by decide)
              · refine x_aload_n dX6_layBest_75 rfl ?_
                refine x_iload dX6_layBest_76 rfl ?_
                refine y_callV (as := [_]) okX6_keepsBest lkX6_82 dX6_layBest_78 rfl (by decide) rfl (r_keeps) (by omega) rfl (by simp [Value.category]) (Nat.le_of_ble_eq_true rfl) rfl rfl (cat8 rfl) ?_
                refine x_iincv (v := -1) dX6_layBest_81 rfl (by decide) rfl (by decide) ?_
                refine x_goto 49 dX6_layBest_84 (by decide) ?_
                exact hh
  | succ k ih =>
    intro t p s M gv l6 l7 ht hF hS hg h92 hk
    have hh := r_lb_a (M0 := M0) (Q := Q) (L := L) hn7 (t := t) (p := p) (by omega) none 0 s M gv l6 l7 (LSt_f (by omega) hS) (gvB_none hg) h92 (fun x hx => by cases hx) (fun M' gv' hS' hg' h9' => by
      refine r_lb_b (M1 := M) (k := k) hV hn hn7 (by omega) hF (fun o s M gv l6 l7 a b c d e => ih (t + 1) (setA p t o) s M gv l6 l7 (by omega) a b c d e) (n + 1) 0 s M' gv' l7 (by omega) hS' hg' (fun j _ => by rw [h9']) ?_
      have hd : DD (canV (M0 85)) n L (k + 1) p s = DF (fun c s => DD (canV (M0 85)) n L k (setA p t (opt n c)) s) (n + 1) 0 s := by
        rw [DD]
        rw [show n - (k + 1) = t by omega]
      rw [← hd]
      exact hk)
    rw [cnt_set] at hh
    exact hh
theorem r_lay_loop {M M9 : Mem} {a b : Int32} (hk : Y 5 mX6_layBest 29 [some (.ref 84), some (.int a), some (.int b), some (.int (nI 7)), none, none, none, none] [] (setR M 91 (rowN (fun _ => -4) 7 (M 91))) none M9) : ∀ (fu i : Nat), i ≤ 7 → 7 - i < fu → Y 5 mX6_layBest 9 [some (.ref 84), some (.int a), some (.int b), some (.int (nI i)), none, none, none, none] [] (setR M 91 (rowN (fun _ => -4) i (M 91))) none M9 := by
  intro fu
  induction fu with
  | zero => intro i h1 h2; omega
  | succ fu ih =>
    intro i h1 h2
    refine x_iload_n dX6_layBest_9 rfl ?_
    refine x_bipushv (v := 7) dX6_layBest_10 (by decide) ?_
    refine x_icmp_ge 29 dX6_layBest_12 (by decide) (fun c_12 => ?_) (fun c_12 => ?_)
    · have he := eq7 h1 c_12
      subst he
      exact hk
    · have hlt := lt7 h1 c_12
      refine x_aload_n dX6_layBest_15 rfl ?_
      refine y_getR fkX6_35 dX6_layBest_16 (by decide) rfl rfl ?_
      refine x_iload_n dX6_layBest_19 rfl ?_
      refine x_bipushv (v := -4) dX6_layBest_20 (by decide) ?_
      refine y_iastn (j := i) dX6_layBest_22 (by decide) rfl (ixN (by omega)) (by omega) ?_
      refine x_iincv (v := 1) dX6_layBest_23 rfl (by decide) rfl (by decide) ?_
      refine x_goto 9 dX6_layBest_26 (by decide) ?_
      rw [updM_row, row_at, row_row, show upd (rowN (fun _ => -4) i (M 91)) i (-4) = rowN (fun _ => -4) (i + 1) (M 91) from rowN_s (V := fun _ => -4), nI_1]
      exact ih (i + 1) (by omega) (by omega)
theorem r_layBest {M : Mem} (hV : WF (M 85)) {L : Nat} (hL : 1 ≤ L ∧ L ≤ 7) : ∃ M' : Mem, Y 5 mX6_layBest 0 (lent 8 [.ref 84, .int (nI L)]) [] M none M' ∧ M' 84 11 = nI (bsr (M 85) L).1 - 1 ∧ (∀ j, j < nT (M 85) → M' 90 j = gI (-4) ((bsr (M 85) L).2 j)) ∧ (∀ c, c ≠ 84 → c ≠ 90 → c ≠ 91 → c ≠ 92 → M' c = M c) ∧ ∀ i, i ≠ 11 → M' 84 i = M 84 i := by
  obtain ⟨hn7, hn⟩ := WF_n hV
  have hb := r_lb (M0 := M) (Q := fun M' => M' 84 11 = nI (bsr (M 85) L).1 - 1 ∧ (∀ j, j < nT (M 85) → M' 90 j = gI (-4) ((bsr (M 85) L).2 j)) ∧ (∀ c, c ≠ 84 → c ≠ 90 → c ≠ 91 → c ≠ 92 → M' c = M c) ∧ ∀ i, i ≠ 11 → M' 84 i = M 84 i) hV rfl hL (nT (M 85)) 0 (fun _ => none) (1, fun _ => none) (updM (setR (updM (setR M 91 (rowN (fun _ => -4) 7 (M 91))) 84 11 0) 90 (rowN (fun _ => -4) 7 (M 90))) 92 0 0) 0 none none (by omega)
    ⟨fun u g h => by omega, fun u v g h => by omega⟩
    ⟨fun c h1 h2 h3 h4 => by rw [updM_ne h4, row_ne h2, updM_ne h1, row_ne h3], fun i hi => by rw [updM_ne (by decide), row_ne (by decide), updM_at, if_neg (by omega), row_ne (by decide)], fun j hj => by omega, fun j _ hj => by rw [updM_ne (by decide), row_ne (by decide), updM_ne (by decide), row_at, rowN_at, if_pos hj], by rw [updM_ne (by decide), row_ne (by decide), updM_at, if_pos ⟨rfl, rfl⟩]; rfl, fun j hj => by rw [updM_ne (by decide), row_at, rowN_at, if_pos (by omega)]; rfl, by decide, by decide⟩
    (fun c hc => by rw [bit_zero]; simp) (by rw [updM_at, if_pos ⟨rfl, rfl⟩]) (fun M' gv' l6 l7 hS hg _ => by
      obtain ⟨a, b, c, d, e, f, g, z⟩ := hS
      refine ⟨M', ?_, e, f, a, b⟩
      have hm1 : (nI 0 + -1 : Int32) < 0 := by decide
      skip
      refine x_iload_n dX6_layBest_49 rfl ?_
      refine x_if_lt 242 dX6_layBest_50 (by decide) (fun c_50 => ?_) (fun c_50 => ?_)
      · exact y_vret dX6_layBest_242 rfl (rfl)
      · exact absurd hm1 c_50)
  obtain ⟨M', s1, q1⟩ := hb
  have hkp := r_keeps (M := setR M 91 (rowN (fun _ => -4) 7 (M 91))) (x := 0)
  rw [row_at, rowN_m4] at hkp
  have e90 : updM (setR M 91 (rowN (fun _ => -4) 7 (M 91))) 84 11 0 90 = M 90 := by rw [updM_ne (by decide), row_ne (by decide)]
  have hl := r_lay_loop (M := M) (M9 := M') (a := nI L) (b := nI (nT (M 85))) (by
    skip
    refine x_aload_n dX6_layBest_29 rfl ?_
    refine x_iconstv (v := 0) dX6_layBest_30 (by decide) ?_
    refine y_callV (as := [_]) okX6_keepsBest lkX6_82 dX6_layBest_31 rfl (by decide) rfl (hkp) (by omega) rfl (by simp [Value.category]) (Nat.le_of_ble_eq_true rfl) rfl rfl (cat8 rfl) ?_
    refine x_iconstv (v := 0) dX6_layBest_34 (by decide) ?_
    refine x_istore_n dX6_layBest_35 (by decide) rfl ?_
    refine x_iconstv (v := 0) dX6_layBest_36 (by decide) ?_
    refine x_istore dX6_layBest_37 (by decide) rfl ?_
    refine x_iconstv (v := 0) dX6_layBest_39 (by decide) ?_
    refine x_istore dX6_layBest_40 (by decide) rfl ?_
    refine x_aload_n dX6_layBest_42 rfl ?_
    refine y_getR fkX6_38 dX6_layBest_43 (by decide) rfl rfl ?_
    refine x_iconstv (v := 0) dX6_layBest_46 (by decide) ?_
    refine x_iconstv (v := 0) dX6_layBest_47 (by decide) ?_
    refine y_iastn (j := 0) dX6_layBest_48 (by decide) rfl (by decide) (by decide) ?_
    exact s1) 8 0 (by omega) (by omega)
  rw [rowN_0, row_self] at hl
  refine ⟨M', ?_, q1⟩
  skip
  refine x_aload_n dX6_layBest_0 rfl ?_
  refine y_getR fkX6_7 dX6_layBest_1 (by decide) rfl rfl ?_
  refine x_iconstv (v := 1) dX6_layBest_4 (by decide) ?_
  refine y_ialdn (j := 1) dX6_layBest_5 (by decide) rfl (by decide) (by decide) ?_
  rw [hn]
  refine x_istore_n dX6_layBest_6 (by decide) rfl ?_
  refine x_iconstv (v := 0) dX6_layBest_7 (by decide) ?_
  refine x_istore_n dX6_layBest_8 (by decide) rfl ?_
  exact hl
