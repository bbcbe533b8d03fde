theorem r_keeps_loop {M : Mem} {x : Int32} : ∀ (fu i : Nat), i ≤ 7 → 7 - i < fu → Y 0 mX6_keepsBest 7 [some (.ref 84), some (.int x), some (.int (nI i))] [] (setR M 90 (rowN (M 91) i (M 90))) none (setR M 90 (rowN (M 91) 7 (M 90))) := by
  intro fu
  induction fu with
  | zero => intro i h1 h2; omega
  | succ fu ih =>
    intro i h1 h2
    refine x_iload_n dX6_keepsBest_7 rfl ?_
    refine x_bipushv (v := 7) dX6_keepsBest_8 (by decide) ?_
    refine x_icmp_ge 31 dX6_keepsBest_10 (by decide) (fun c_10 => ?_) (fun c_10 => ?_)
    · have he := eq7 h1 c_10
      subst he
      exact y_vret dX6_keepsBest_31 rfl (rfl)
    · have hlt := lt7 h1 c_10
      refine x_aload_n dX6_keepsBest_13 rfl ?_
      refine y_getR fkX6_32 dX6_keepsBest_14 (by decide) rfl rfl ?_
      refine x_iload_n dX6_keepsBest_17 rfl ?_
      refine x_aload_n dX6_keepsBest_18 rfl ?_
      refine y_getR fkX6_35 dX6_keepsBest_19 (by decide) rfl rfl ?_
      refine x_iload_n dX6_keepsBest_22 rfl ?_
      refine y_ialdn (j := i) dX6_keepsBest_23 (by decide) rfl (ixN (by omega)) (by omega) ?_
      refine y_iastn (j := i) dX6_keepsBest_24 (by decide) rfl (ixN (by omega)) (by omega) ?_
      refine x_iincv (v := 1) dX6_keepsBest_25 rfl (by decide) rfl (by decide) ?_
      refine x_goto 7 dX6_keepsBest_28 (by decide) ?_
      rw [row_ne (k := 91) (by decide), updM_row, row_at, row_row, rowN_s, nI_1]
      exact ih (i + 1) (by omega) (by omega)
theorem r_keeps {M : Mem} {x : Int32} : Y 0 mX6_keepsBest 0 (lent 3 [.ref 84, .int x]) [] M none (setR (updM M 84 11 x) 90 (rowN (M 91) 7 (M 90))) := by
  have h := r_keeps_loop (M := updM M 84 11 x) (x := x) 8 0 (by omega) (by omega)
  rw [rowN_0, row_self, updM_ne (k := 91) (by decide), updM_ne (k := 90) (by decide)] at h
  refine x_aload_n dX6_keepsBest_0 rfl ?_
  refine x_iload_n dX6_keepsBest_1 rfl ?_
  refine y_putI fkX6_76 dX6_keepsBest_2 (by decide) rfl rfl rfl rfl rfl ?_
  refine x_iconstv (v := 0) dX6_keepsBest_5 (by decide) ?_
  refine x_istore_n dX6_keepsBest_6 (by decide) rfl ?_
  exact h
theorem r_may {M : Mem} (hV : WF (M 85)) {t g : Nat} (ht : t < nT (M 85)) (hg : g < nT (M 85)) {gv : Int32} : Y 4 mX6_may 0 (lent 4 [.ref 84, .int (nI t), .int (nI g), .int gv]) [] M (some (.int (b2i (!bitI gv g && canV (M 85) t g)))) M := by
  have h7 := b6 hV hg
  have hh := sh_half (x := gv) (c := g) (by omega)
  refine x_iload_n dX6_may_0 rfl ?_
  refine x_iload_n dX6_may_1 rfl ?_
  refine x_ishr dX6_may_2 ?_
  refine x_iconstv (v := 1) dX6_may_3 (by decide) ?_
  refine x_iand dX6_may_4 ?_
  refine x_if_ne 21 dX6_may_5 (by decide) (fun c_5 => ?_) (fun c_5 => ?_)
  · refine x_iconstv (v := 0) dX6_may_21 (by decide) ?_
    exact y_ret dX6_may_22 rfl (rfl) (by first | (simp_all [b2i_z, b2i]; done) | (rw [hh] at c_5; simp_all [b2i_z, b2i]) | (simp_all [b2i_z, b2i] <;> grind)) (rfl)
  · refine x_aload_n dX6_may_8 rfl ?_
    refine x_iload_n dX6_may_9 rfl ?_
    refine x_iload_n dX6_may_10 rfl ?_
    refine y_callV (as := [_, _]) okX6_takes lkX6_79 dX6_may_11 rfl (by decide) rfl (r_takes hV ht hg) (by omega) rfl (by simp [Value.category]) (Nat.le_of_ble_eq_true rfl) rfl rfl (cat8 rfl) ?_
    refine x_if_eq 21 dX6_may_14 (by decide) (fun c_14 => ?_) (fun c_14 => ?_)
    · refine x_iconstv (v := 0) dX6_may_21 (by decide) ?_
      exact y_ret dX6_may_22 rfl (rfl) (by first | (simp_all [b2i_z, b2i]; done) | (rw [hh] at c_5; simp_all [b2i_z, b2i]) | (simp_all [b2i_z, b2i] <;> grind)) (rfl)
    · refine x_iconstv (v := 1) dX6_may_17 (by decide) ?_
      refine x_goto 22 dX6_may_18 (by decide) ?_
      exact y_ret dX6_may_22 rfl (rfl) (by first | (simp_all [b2i_z, b2i]; done) | (rw [hh] at c_5; simp_all [b2i_z, b2i]) | (simp_all [b2i_z, b2i] <;> grind)) (rfl)
theorem r_ar_in {M : Mem} {n L t : Nat} {p : Asg} (hn : n ≤ 7) (hL : L ≤ 7) (ht : t < n) (hp : ∀ j, j < n → M 91 j = gI (-4) (p j)) (hx : ∀ j x, j < n → p j = some x → x < n) {ar : Int32} {M9 : Mem} {r : Option Value} (hk : ∀ l4 l5 : Option Value, Y 0 mX6_areCircles 92 [some (.ref 84), some (.int (nI L)), some (.int (b2i (okT p L t))), some (.int (nI t)), l4, l5] [] M r M9) : ∀ (k : Nat) (o : Option Nat), k ≤ L → (∀ x, o = some x → x < n) → okT p L t = wlk p t k o → Y 0 mX6_areCircles 40 [some (.ref 84), some (.int (nI L)), some (.int ar), some (.int (nI t)), some (.int (nI (L + 1 - k))), some (.int (gI (-4) o))] [] M r M9 := by
  intro k
  induction k with
  | zero =>
    intro o hk9 ho he
    rw [he, wlk] at hk
    have h1 : ¬ nI (L + 1 - 0) ≤ nI L := nI_ge (by omega) (by omega)
    skip
    refine x_iload dX6_areCircles_40 rfl ?_
    refine x_iload_n dX6_areCircles_42 rfl ?_
    refine x_icmp_gt 74 dX6_areCircles_43 (by decide) (fun c_43 => ?_) (fun c_43 => ?_)
    · refine x_iload dX6_areCircles_74 rfl ?_
      refine x_iload_n dX6_areCircles_76 rfl ?_
      refine x_icmp_ne 90 dX6_areCircles_77 (by decide) (fun c_77 => ?_) (fun c_77 => ?_)
      · refine x_iconstv (v := 0) dX6_areCircles_90 (by decide) ?_
        refine x_istore_n dX6_areCircles_91 (by decide) rfl ?_
        exact hk _ _
      · refine x_iload dX6_areCircles_80 rfl ?_
        refine x_iload_n dX6_areCircles_82 rfl ?_
        refine x_icmp_gt 90 dX6_areCircles_83 (by decide) (fun c_83 => ?_) (fun c_83 => ?_)
        · refine x_iconstv (v := 0) dX6_areCircles_90 (by decide) ?_
          refine x_istore_n dX6_areCircles_91 (by decide) rfl ?_
          exact hk _ _
        · exact absurd (Int32.not_lt.mp c_83) h1
    · exact absurd (Int32.not_lt.mp c_43) h1
  | succ k ih =>
    intro o hk9 ho he
    have h1 : ¬ nI L < nI (L + 1 - (k + 1)) := nI_nlt (by omega) (by omega)
    cases o with
    | none =>
      rw [he, wlk] at hk
      have hg : gI (-4) none = -4 := rfl
      rw [hg]
      have h2 : ¬ (-4 : Int32) = nI t := fun q => m4_nI (by omega) q.symm
      skip
      refine x_iload dX6_areCircles_40 rfl ?_
      refine x_iload_n dX6_areCircles_42 rfl ?_
      refine x_icmp_gt 74 dX6_areCircles_43 (by decide) (fun c_43 => ?_) (fun c_43 => ?_)
      · exact absurd c_43 h1
      · refine x_iload dX6_areCircles_46 rfl ?_
        refine x_iload_n dX6_areCircles_48 rfl ?_
        refine x_icmp_eq 74 dX6_areCircles_49 (by decide) (fun c_49 => ?_) (fun c_49 => ?_)
        · exact absurd c_49 h2
        · refine x_iload dX6_areCircles_52 rfl ?_
          refine x_bipushv (v := -4) dX6_areCircles_54 (by decide) ?_
          refine x_icmp_eq 74 dX6_areCircles_56 (by decide) (fun c_56 => ?_) (fun c_56 => ?_)
          · refine x_iload dX6_areCircles_74 rfl ?_
            refine x_iload_n dX6_areCircles_76 rfl ?_
            refine x_icmp_ne 90 dX6_areCircles_77 (by decide) (fun c_77 => ?_) (fun c_77 => ?_)
            · refine x_iconstv (v := 0) dX6_areCircles_90 (by decide) ?_
              refine x_istore_n dX6_areCircles_91 (by decide) rfl ?_
              exact hk _ _
            · exact absurd c_77 h2
          · exact absurd rfl c_56
    | some x =>
      have hx7 := ho x rfl
      have hg : gI (-4) (some x) = nI x := rfl
      rw [hg]
      rw [wlk] at he
      by_cases hxt : x = t
      · rw [if_pos hxt] at he
        rw [he] at hk
        subst hxt
        skip
        refine x_iload dX6_areCircles_40 rfl ?_
        refine x_iload_n dX6_areCircles_42 rfl ?_
        refine x_icmp_gt 74 dX6_areCircles_43 (by decide) (fun c_43 => ?_) (fun c_43 => ?_)
        · exact absurd c_43 h1
        · refine x_iload dX6_areCircles_46 rfl ?_
          refine x_iload_n dX6_areCircles_48 rfl ?_
          refine x_icmp_eq 74 dX6_areCircles_49 (by decide) (fun c_49 => ?_) (fun c_49 => ?_)
          · refine x_iload dX6_areCircles_74 rfl ?_
            refine x_iload_n dX6_areCircles_76 rfl ?_
            refine x_icmp_ne 90 dX6_areCircles_77 (by decide) (fun c_77 => ?_) (fun c_77 => ?_)
            · exact absurd rfl c_77
            · refine x_iload dX6_areCircles_80 rfl ?_
              refine x_iload_n dX6_areCircles_82 rfl ?_
              refine x_icmp_gt 90 dX6_areCircles_83 (by decide) (fun c_83 => ?_) (fun c_83 => ?_)
              · exact absurd c_83 h1
              · refine x_iconstv (v := 1) dX6_areCircles_86 (by decide) ?_
                refine x_goto 91 dX6_areCircles_87 (by decide) ?_
                refine x_istore_n dX6_areCircles_91 (by decide) rfl ?_
                exact hk _ _
          · exact absurd rfl c_49
      · rw [if_neg hxt] at he
        have hne : ¬ nI x = nI t := fun q => hxt ((nI_eq (by omega) (by omega)).mp q)
        have h4 : ¬ nI x = -4 := m4_nI (by omega)
        have hi := ih (p x) (by omega) (fun y hy => hx x y hx7 hy) he
        have e1 : L + 1 - (k + 1) + 1 = L + 1 - k := by omega
        skip
        refine x_iload dX6_areCircles_40 rfl ?_
        refine x_iload_n dX6_areCircles_42 rfl ?_
        refine x_icmp_gt 74 dX6_areCircles_43 (by decide) (fun c_43 => ?_) (fun c_43 => ?_)
        · exact absurd c_43 h1
        · refine x_iload dX6_areCircles_46 rfl ?_
          refine x_iload_n dX6_areCircles_48 rfl ?_
          refine x_icmp_eq 74 dX6_areCircles_49 (by decide) (fun c_49 => ?_) (fun c_49 => ?_)
          · exact absurd c_49 hne
          · refine x_iload dX6_areCircles_52 rfl ?_
            refine x_bipushv (v := -4) dX6_areCircles_54 (by decide) ?_
            refine x_icmp_eq 74 dX6_areCircles_56 (by decide) (fun c_56 => ?_) (fun c_56 => ?_)
            · exact absurd c_56 h4
            · refine x_aload_n dX6_areCircles_59 rfl ?_
              refine y_getR fkX6_35 dX6_areCircles_60 (by decide) rfl rfl ?_
              refine x_iload dX6_areCircles_63 rfl ?_
              refine y_ialdn (j := x) dX6_areCircles_65 (by decide) rfl (ixN (by omega)) (by omega) ?_
              rw [hp x hx7]
              refine x_istore dX6_areCircles_66 (by decide) rfl ?_
              refine x_iincv (v := 1) dX6_areCircles_68 rfl (by decide) rfl (by decide) ?_
              refine x_goto 40 dX6_areCircles_71 (by decide) ?_
              rw [nI_1, e1]
              exact hi
theorem r_ar_loop {M : Mem} {n L : Nat} {p : Asg} (hn : n ≤ 7) (hL : 1 ≤ L ∧ L ≤ 7) (h85 : M 85 1 = nI n) (hp : ∀ j, j < n → M 91 j = gI (-4) (p j)) (hx : ∀ j x, j < n → p j = some x → x < n) : ∀ (k t : Nat) (l4 l5 : Option Value), t + k = n → Y 0 mX6_areCircles 4 [some (.ref 84), some (.int (nI L)), some (.int (b2i (okN p L t))), some (.int (nI t)), l4, l5] [] M (some (.int (b2i (okN p L n)))) M := by
  intro k
  induction k with
  | zero =>
    intro t l4 l5 ht
    have he : t = n := by omega
    subst he
    skip
    refine x_iload_n dX6_areCircles_4 rfl ?_
    refine x_aload_n dX6_areCircles_5 rfl ?_
    refine y_getR fkX6_7 dX6_areCircles_6 (by decide) rfl rfl ?_
    refine x_iconstv (v := 1) dX6_areCircles_9 (by decide) ?_
    refine y_ialdn (j := 1) dX6_areCircles_10 (by decide) rfl (by decide) (by decide) ?_
    rw [h85]
    refine x_icmp_ge 98 dX6_areCircles_11 (by decide) (fun c_11 => ?_) (fun c_11 => ?_)
    · refine x_iload_n dX6_areCircles_98 rfl ?_
      exact y_ret dX6_areCircles_99 rfl (b2i_nar _) (rfl) (rfl)
    · exact absurd (Int32.le_refl _) c_11
  | succ k ih =>
    intro t l4 l5 ht
    have hlt : t < n := by omega
    have hnle : ¬ nI n ≤ nI t := nI_ge hlt (by omega)
    cases ho : okN p L t with
    | false =>
      have hF : okN p L n = false := by rw [← ht]; exact okN_F ho (k + 1)
      rw [hF]
      skip
      refine x_iload_n dX6_areCircles_4 rfl ?_
      refine x_aload_n dX6_areCircles_5 rfl ?_
      refine y_getR fkX6_7 dX6_areCircles_6 (by decide) rfl rfl ?_
      refine x_iconstv (v := 1) dX6_areCircles_9 (by decide) ?_
      refine y_ialdn (j := 1) dX6_areCircles_10 (by decide) rfl (by decide) (by decide) ?_
      rw [h85]
      refine x_icmp_ge 98 dX6_areCircles_11 (by decide) (fun c_11 => ?_) (fun c_11 => ?_)
      · exact absurd c_11 hnle
      · refine x_iload_n dX6_areCircles_14 rfl ?_
        refine x_if_eq 98 dX6_areCircles_15 (by decide) (fun c_15 => ?_) (fun c_15 => ?_)
        · refine x_iload_n dX6_areCircles_98 rfl ?_
          exact y_ret dX6_areCircles_99 rfl (rfl) (rfl) (rfl)
        · exact absurd rfl c_15
    | true =>
      have hs : okN p L (t + 1) = okT p L t := by rw [okN, ho]; rfl
      have hi := fun a b => ih (t + 1) a b (by omega)
      rw [hs] at hi
      cases hpt : p t with
      | none =>
        have hok : okT p L t = true := by unfold okT; rw [hpt]
        rw [hok] at hi
        have hg : gI (-4) none = -4 := rfl
        have hp4 : M 91 t = -4 := by rw [hp t hlt, hpt]; rfl
        skip
        refine x_iload_n dX6_areCircles_4 rfl ?_
        refine x_aload_n dX6_areCircles_5 rfl ?_
        refine y_getR fkX6_7 dX6_areCircles_6 (by decide) rfl rfl ?_
        refine x_iconstv (v := 1) dX6_areCircles_9 (by decide) ?_
        refine y_ialdn (j := 1) dX6_areCircles_10 (by decide) rfl (by decide) (by decide) ?_
        rw [h85]
        refine x_icmp_ge 98 dX6_areCircles_11 (by decide) (fun c_11 => ?_) (fun c_11 => ?_)
        · exact absurd c_11 hnle
        · refine x_iload_n dX6_areCircles_14 rfl ?_
          refine x_if_eq 98 dX6_areCircles_15 (by decide) (fun c_15 => ?_) (fun c_15 => ?_)
          · exact absurd c_15 (by decide)
          · refine x_aload_n dX6_areCircles_18 rfl ?_
            refine y_getR fkX6_35 dX6_areCircles_19 (by decide) rfl rfl ?_
            refine x_iload_n dX6_areCircles_22 rfl ?_
            refine y_ialdn (j := t) dX6_areCircles_23 (by decide) rfl (ixN (by omega)) (by omega) ?_
            rw [hp4]
            refine x_bipushv (v := -4) dX6_areCircles_24 (by decide) ?_
            refine x_icmp_eq 92 dX6_areCircles_26 (by decide) (fun c_26 => ?_) (fun c_26 => ?_)
            · refine x_iincv (v := 1) dX6_areCircles_92 rfl (by decide) rfl (by decide) ?_
              refine x_goto 4 dX6_areCircles_95 (by decide) ?_
              rw [nI_1]
              exact hi _ _
            · exact absurd rfl c_26
      | some g =>
        have hg7 := hx t g hlt hpt
        have hpg : M 91 t = nI g := by rw [hp t hlt, hpt]; rfl
        have h4 : ¬ nI g = -4 := m4_nI (by omega)
        have hok : okT p L t = wlk p t L (some g) := by unfold okT; rw [hpt, wlk_ret]
        have hk : ∀ l4 l5 : Option Value, Y 0 mX6_areCircles 92 [some (.ref 84), some (.int (nI L)), some (.int (b2i (okT p L t))), some (.int (nI t)), l4, l5] [] M (some (.int (b2i (okN p L n)))) M := by
          intro l4 l5
          skip
          refine x_iincv (v := 1) dX6_areCircles_92 rfl (by decide) rfl (by decide) ?_
          refine x_goto 4 dX6_areCircles_95 (by decide) ?_
          rw [nI_1]
          exact hi _ _
        have hin := r_ar_in hn hL.2 hlt hp hx (ar := b2i true) hk L (some g) (Nat.le_refl _) (fun x hx => by cases hx; exact hg7) hok
        rw [show L + 1 - L = 1 by omega] at hin
        skip
        refine x_iload_n dX6_areCircles_4 rfl ?_
        refine x_aload_n dX6_areCircles_5 rfl ?_
        refine y_getR fkX6_7 dX6_areCircles_6 (by decide) rfl rfl ?_
        refine x_iconstv (v := 1) dX6_areCircles_9 (by decide) ?_
        refine y_ialdn (j := 1) dX6_areCircles_10 (by decide) rfl (by decide) (by decide) ?_
        rw [h85]
        refine x_icmp_ge 98 dX6_areCircles_11 (by decide) (fun c_11 => ?_) (fun c_11 => ?_)
        · exact absurd c_11 hnle
        · refine x_iload_n dX6_areCircles_14 rfl ?_
          refine x_if_eq 98 dX6_areCircles_15 (by decide) (fun c_15 => ?_) (fun c_15 => ?_)
          · exact absurd c_15 (by decide)
          · refine x_aload_n dX6_areCircles_18 rfl ?_
            refine y_getR fkX6_35 dX6_areCircles_19 (by decide) rfl rfl ?_
            refine x_iload_n dX6_areCircles_22 rfl ?_
            refine y_ialdn (j := t) dX6_areCircles_23 (by decide) rfl (ixN (by omega)) (by omega) ?_
            rw [hpg]
            refine x_bipushv (v := -4) dX6_areCircles_24 (by decide) ?_
            refine x_icmp_eq 92 dX6_areCircles_26 (by decide) (fun c_26 => ?_) (fun c_26 => ?_)
            · exact absurd c_26 h4
            · refine x_iconstv (v := 1) dX6_areCircles_29 (by decide) ?_
              refine x_istore dX6_areCircles_30 (by decide) rfl ?_
              refine x_aload_n dX6_areCircles_32 rfl ?_
              refine y_getR fkX6_35 dX6_areCircles_33 (by decide) rfl rfl ?_
              refine x_iload_n dX6_areCircles_36 rfl ?_
              refine y_ialdn (j := t) dX6_areCircles_37 (by decide) rfl (ixN (by omega)) (by omega) ?_
              rw [hpg]
              refine x_istore dX6_areCircles_38 (by decide) rfl ?_
              exact hin
theorem r_ar {M : Mem} {n L : Nat} {p : Asg} (hn : n ≤ 7) (hL : 1 ≤ L ∧ L ≤ 7) (h85 : M 85 1 = nI n) (hp : ∀ j, j < n → M 91 j = gI (-4) (p j)) (hx : ∀ j x, j < n → p j = some x → x < n) : Y 0 mX6_areCircles 0 (lent 6 [.ref 84, .int (nI L)]) [] M (some (.int (b2i (okN p L n)))) M := by
  have h := r_ar_loop hn hL h85 hp hx n 0 none none (by omega)
  refine x_iconstv (v := 1) dX6_areCircles_0 (by decide) ?_
  refine x_istore_n dX6_areCircles_1 (by decide) rfl ?_
  refine x_iconstv (v := 0) dX6_areCircles_2 (by decide) ?_
  refine x_istore_n dX6_areCircles_3 (by decide) rfl ?_
  exact h
