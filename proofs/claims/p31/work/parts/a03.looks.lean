/-! the class between calls, and what its calls answer -/
def St (V : Row) (K : Nat) (h : Nat → Row) (M : Mem) : Prop := CI M V K h ∧ Good V ∧ M 0 7 = 0
section LK
variable {V : Row} {K : Nat} {h : Nat → Row} {M : Mem}
theorem St.R (hS : St V K h M) : RM M 1 V := hS.1.1
theorem St.G (hS : St V K h M) : Good V := hS.2.1
theorem St.W (hS : St V K h M) : WF V := hS.2.1.1
theorem St.fr {M' : Mem} (hS : St V K h M) (hf : ∀ c, c < 11 ∨ (20 < c ∧ c < 75) ∨ 83 < c → M' c = M c) : St V K h M' := ⟨⟨RM_congr (fun c h1 h2 => hf c (by omega)) hS.1.1, HC_fr (fun c h1 h2 => hf c (by omega)) hS.1.2⟩, hS.2.1, by rw [hf 0 (by omega)]; exact hS.2.2⟩
theorem St.up {V' : Row} {K' : Nat} {h' : Nat → Row} {M' : Mem} (hS : St V K h M) (hC : CI M' V' K' h') (hF : FC M M') (hG : Good V') : St V' K' h' M' := ⟨hC, hG, by rw [hF 0 (by omega)]; exact hS.2.2⟩
theorem V1_n (hV : WF V) : V 1 = nI (nT V) := (WF_n hV).2
theorem n_7 (hV : WF V) : nT V ≤ 7 := (WF_n hV).1
theorem both_T (hV : WF V) {a b : Nat} (ha : a < nT V) (hb : b < nT V) (hab : a ≠ b) : bothB V (nI a) (nI b) = true := by
  have := n_7 hV
  unfold bothB
  rw [hasB_nI hV (by omega), hasB_nI hV (by omega), decide_eq_true ha, decide_eq_true hb]
  simp only [Bool.true_and, decide_eq_true_eq]
  exact fun q => hab ((nI_eq (by omega) (by omega)).mp q)
theorem both_F (hV : WF V) {a b : Nat} (ha : a ≤ nT V) (hb : b ≤ nT V) (h : a = nT V ∨ b = nT V ∨ a = b) : bothB V (nI a) (nI b) = false := by
  have := n_7 hV
  unfold bothB
  rw [hasB_nI hV (by omega), hasB_nI hV (by omega)]
  rcases h with h | h | h
  · rw [decide_eq_false (show ¬ a < nT V by omega)]; rfl
  · rw [decide_eq_false (show ¬ b < nT V by omega), Bool.and_false]; rfl
  · rw [decide_eq_false (show ¬ nI a ≠ nI b from fun q => q (by rw [h])), Bool.and_false]
theorem hasB_no (hV : WF V) : hasB V (nI (nT V)) = false := by
  have := n_7 hV
  rw [hasB_nI hV (by omega)]
  exact decide_eq_false (by omega)
theorem q_count_0 (hS : St V K h M) : YQ none 8 mX5_count 0 (lent 2 [.ref 0, .int (nI 0)]) [] M (some (.int (V 0))) (St V K h) := YQ.of (y_count_0 hS.R hS.W) hS
theorem q_count_2 (hS : St V K h M) : YQ none 8 mX5_count 0 (lent 2 [.ref 0, .int (nI 2)]) [] M (some (.int (needsV V))) (St V K h) := YQ.of (y_count_2 hS.R hS.W) hS
theorem q_count_3 (hS : St V K h M) : YQ none 8 mX5_count 0 (lent 2 [.ref 0, .int (nI 3)]) [] M (some (.int (V 2))) (St V K h) := YQ.of (y_count_3 hS.R hS.W) hS
theorem q_count_4 (hS : St V K h M) : YQ none 8 mX5_count 0 (lent 2 [.ref 0, .int (nI 4)]) [] M (some (.int (soundV V))) (St V K h) := YQ.of (y_count_4 hS.R hS.W) hS
theorem q_count_5 (hS : St V K h M) : YQ none 8 mX5_count 0 (lent 2 [.ref 0, .int (nI 5)]) [] M (some (.int (spoiltV V))) (St V K h) := YQ.of (y_count_5 hS.R hS.W) hS
theorem q_count_6 (hS : St V K h M) : YQ none 8 mX5_count 0 (lent 2 [.ref 0, .int (nI 6)]) [] M (some (.int (V 3))) (St V K h) := YQ.of (y_count_6 hS.R hS.W) hS
theorem q_count_7 (hS : St V K h M) : YQ none 8 mX5_count 0 (lent 2 [.ref 0, .int (nI 7)]) [] M (some (.int (V 4))) (St V K h) := YQ.of (y_count_7 hS.R hS.W) hS
theorem q_count_8 (hS : St V K h M) : YQ none 8 mX5_count 0 (lent 2 [.ref 0, .int (nI 8)]) [] M (some (.int (V 5))) (St V K h) := YQ.of (y_count_8 hS.R hS.W) hS
theorem q_count_9 (hS : St V K h M) : YQ none 8 mX5_count 0 (lent 2 [.ref 0, .int (nI 9)]) [] M (some (.int (V 6))) (St V K h) := YQ.of (y_count_9 hS.R hS.W) hS
theorem q_count_10 (hS : St V K h M) : YQ none 8 mX5_count 0 (lent 2 [.ref 0, .int (nI 10)]) [] M (some (.int (stuckV V))) (St V K h) := YQ.of (y_count_10 hS.R hS.W) hS
theorem q_count_12 (hS : St V K h M) : YQ none 8 mX5_count 0 (lent 2 [.ref 0, .int (nI 12)]) [] M (some (.int (V 8))) (St V K h) := YQ.of (y_count_12 hS.R hS.W) hS
theorem q_count_13 (hS : St V K h M) : YQ none 8 mX5_count 0 (lent 2 [.ref 0, .int (nI 13)]) [] M (some (.int (V 9))) (St V K h) := YQ.of (y_count_13 hS.R hS.W) hS
theorem q_count_1 (hS : St V K h M) : YQ none 8 mX5_count 0 (lent 2 [.ref 0, .int (nI 1)]) [] M (some (.int (nI (nT V)))) (St V K h) := by
  have h1 := y_count_1 hS.R hS.W
  rw [V1_n hS.W] at h1
  exact YQ.of h1 hS
theorem q_count_11 (hS : St V K h M) : YQ none 8 mX5_count 0 (lent 2 [.ref 0, .int (nI 11)]) [] M (some (.int (nI (cirN V)))) (St V K h) := by
  have h1 := y_count_11 hS.R hS.W
  rw [(cir_ok hS.W).1] at h1
  exact YQ.of h1 hS
theorem q_count_15 (hS : St V K h M) : YQ none 8 mX5_count 0 (lent 2 [.ref 0, .int (nI 15)]) [] M (some (.int (nI K))) (St V K h) := by
  have h1 := y_count_15 hS.R hS.W
  rw [hS.1.2.2.1] at h1
  exact YQ.of h1 hS
theorem q_trader_0 (hS : St V K h M) {t : Nat} (ht : t < nT V) : YQ none 8 mX5_trader 0 (lent 3 [.ref 0, .int (nI t), .int (nI 0)]) [] M (some (.int (V (22 + 5 * t)))) (St V K h) := YQ.of (y_trader_0 hS.R hS.W ht) hS
theorem q_trader_1 (hS : St V K h M) {t : Nat} (ht : t < nT V) : YQ none 8 mX5_trader 0 (lent 3 [.ref 0, .int (nI t), .int (nI 1)]) [] M (some (.int (V (23 + 5 * t)))) (St V K h) := YQ.of (y_trader_1 hS.R hS.W ht) hS
theorem q_trader_2 (hS : St V K h M) {t : Nat} (ht : t < nT V) : YQ none 8 mX5_trader 0 (lent 3 [.ref 0, .int (nI t), .int (nI 2)]) [] M (some (.int (V (24 + 5 * t)))) (St V K h) := YQ.of (y_trader_2 hS.R hS.W ht) hS
theorem q_trader_3 (hS : St V K h M) {t : Nat} (ht : t < nT V) : YQ none 8 mX5_trader 0 (lent 3 [.ref 0, .int (nI t), .int (nI 3)]) [] M (some (.int (V (25 + 5 * t)))) (St V K h) := YQ.of (y_trader_3 hS.R hS.W ht) hS
theorem q_trader_4 (hS : St V K h M) {t : Nat} (ht : t < nT V) : YQ none 8 mX5_trader 0 (lent 3 [.ref 0, .int (nI t), .int (nI 4)]) [] M (some (.int (dl V t))) (St V K h) := YQ.of (y_trader_4 hS.R hS.W ht) hS
theorem q_trader_5 (hS : St V K h M) {t : Nat} (ht : t < nT V) : YQ none 8 mX5_trader 0 (lent 3 [.ref 0, .int (nI t), .int (nI 5)]) [] M (some (.int (ind (V 9 = nI t)))) (St V K h) := YQ.of (y_trader_5 hS.R hS.W ht) hS
theorem q_trader_6 (hS : St V K h M) {t : Nat} (ht : t < nT V) : YQ none 8 mX5_trader 0 (lent 3 [.ref 0, .int (nI t), .int (nI 6)]) [] M (some (.int (V (26 + 5 * t)))) (St V K h) := YQ.of (y_trader_6 hS.R hS.W ht) hS
theorem q_trader_8 (hS : St V K h M) {t : Nat} (ht : t < nT V) : YQ none 8 mX5_trader 0 (lent 3 [.ref 0, .int (nI t), .int (nI 8)]) [] M (some (.int (sumF (fun u => b2i (canV V u t)) (nT V)))) (St V K h) := YQ.of (y_trader_8 hS.R hS.W ht) hS
theorem q_trader_2n (hS : St V K h M) {t : Nat} (ht : t < nT V) : YQ none 8 mX5_trader 0 (lent 3 [.ref 0, .int (nI t), .int (nI 2)]) [] M (some (.int (nI (kd V t)))) (St V K h) := by
  have h1 := y_trader_2 hS.R hS.W ht
  rw [vpin_nI (hS.W.2.1 t ht).2.2.1] at h1
  exact YQ.of h1 hS
theorem q_trader_7 (hS : St V K h M) {t : Nat} (ht : t < nT V) : YQ none 8 mX5_trader 0 (lent 3 [.ref 0, .int (nI t), .int (nI 7)]) [] M (some (.int (sumF (fun g => b2i (canV V t g)) (nT V)))) (St V K h) := by
  have h1 := y_trader_7 hS.R hS.W ht
  rw [bc_gv hS.W] at h1
  exact YQ.of h1 hS
theorem q_trader_9 (hS : St V K h M) {t : Nat} (ht : t < nT V) : YQ none 19 mX5_trader 0 (lent 3 [.ref 0, .int (nI t), .int (nI 9)]) [] M (some (.int (gI (-4) (cirG V t)))) (St V K h) := by
  obtain ⟨M', h1, h2⟩ := y_trader_9 hS.R hS.W ht
  exact ⟨M', h1, hS.fr (fun c hc => h2 c (by omega) (by omega) (by omega) (by omega))⟩
theorem q_trader_n (hS : St V K h M) {x : Int32} : YQ none 8 mX5_trader 0 (lent 3 [.ref 0, .int (nI (nT V)), .int x]) [] M (some (.int (-1))) (St V K h) := YQ.of (y_trader_n hS.R hS.W (hasB_no hS.W)) hS
theorem q_kind_0 (hS : St V K h M) {k : Nat} (hk : k < 6) : YQ none 5 mX5_kind 0 (lent 3 [.ref 0, .int (nI k), .int (nI 0)]) [] M (some (.int (V (10 + 2 * k)))) (St V K h) := YQ.of (y_kind_0 hS.R hS.W hk) hS
theorem q_kind_1 (hS : St V K h M) {k : Nat} (hk : k < 6) : YQ none 5 mX5_kind 0 (lent 3 [.ref 0, .int (nI k), .int (nI 1)]) [] M (some (.int (waresV V (nI k)))) (St V K h) := YQ.of (y_kind_1 hS.R hS.W hk) hS
theorem q_kind_2 (hS : St V K h M) {k : Nat} (hk : k < 6) : YQ none 5 mX5_kind 0 (lent 3 [.ref 0, .int (nI k), .int (nI 2)]) [] M (some (.int (waresV V (nI k) - swaresV V (nI k)))) (St V K h) := YQ.of (y_kind_2 hS.R hS.W hk) hS
theorem q_kind_3 (hS : St V K h M) {k : Nat} (hk : k < 6) : YQ none 5 mX5_kind 0 (lent 3 [.ref 0, .int (nI k), .int (nI 3)]) [] M (some (.int (wantV V (nI k)))) (St V K h) := YQ.of (y_kind_3 hS.R hS.W hk) hS
theorem q_kind_4 (hS : St V K h M) {k : Nat} (hk : k < 6) : YQ none 5 mX5_kind 0 (lent 3 [.ref 0, .int (nI k), .int (nI 4)]) [] M (some (.int (makeV V (nI k)))) (St V K h) := YQ.of (y_kind_4 hS.R hS.W hk) hS
theorem q_kind_5 (hS : St V K h M) {k : Nat} (hk : k < 6) : YQ none 5 mX5_kind 0 (lent 3 [.ref 0, .int (nI k), .int (nI 5)]) [] M (some (.int (V (11 + 2 * k)))) (St V K h) := YQ.of (y_kind_5 hS.R hS.W hk) hS
theorem q_can1 (hS : St V K h M) {a b : Nat} (ha : a < nT V) (hb : b < nT V) (hab : a ≠ b) : YQ none 6 mX5_can 0 (lent 3 [.ref 0, .int (nI a), .int (nI b)]) [] M (some (.int (b2i (canV V a b)))) (St V K h) := YQ.of (y_can1 hS.R hS.W ha hb (both_T hS.W ha hb hab)) hS
theorem q_can0 (hS : St V K h M) {a : Nat} (ha : a ≤ nT V) : YQ none 6 mX5_can 0 (lent 3 [.ref 0, .int (nI a), .int (nI a)]) [] M (some (.int (-1))) (St V K h) := YQ.of (y_can0 hS.R hS.W (both_F hS.W ha ha (Or.inr (Or.inr rfl)))) hS
theorem q_whyNot1 (hS : St V K h M) {a b : Nat} (ha : a < nT V) (hb : b < nT V) (hab : a ≠ b) : YQ none 5 mX5_whyNot 0 (lent 3 [.ref 0, .int (nI a), .int (nI b)]) [] M (some (.int (rsn V a b))) (St V K h) := YQ.of (y_whyNot1 hS.R hS.W ha hb (both_T hS.W ha hb hab)) hS
theorem q_whyNot0 (hS : St V K h M) {a b : Nat} (ha : a ≤ nT V) (hb : b ≤ nT V) (hab : a = nT V ∨ b = nT V ∨ a = b) : YQ none 5 mX5_whyNot 0 (lent 3 [.ref 0, .int (nI a), .int (nI b)]) [] M (some (.int (-1))) (St V K h) := YQ.of (y_whyNot0 hS.R hS.W (both_F hS.W ha hb hab)) hS
theorem q_most_0 (hS : St V K h M) : YQ none 18 mX5_most 0 (lent 2 [.ref 0, .int (nI 0)]) [] M (some (.int (mstV V (cirN V)))) (St V K h) := by
  obtain ⟨M', h1, h2⟩ := y_most_0 hS.R hS.W
  exact ⟨M', h1, hS.fr (fun c hc => h2 c (by omega))⟩
theorem q_most_1 (hS : St V K h M) : YQ none 18 mX5_most 0 (lent 2 [.ref 0, .int (nI 1)]) [] M (some (.int (mstV V (cirN V)))) (St V K h) := by
  obtain ⟨M', h1, h2⟩ := y_most_1 hS.R hS.W
  exact ⟨M', h1, hS.fr (fun c hc => h2 c (by omega))⟩
theorem q_ifCircle (hS : St V K h M) {L : Nat} (h2 : 2 ≤ L) (h7 : L ≤ 7) : YQ none 9 mX5_ifCircle 0 (lent 2 [.ref 0, .int (nI L)]) [] M (some (.int (mstV V L))) (St V K h) := by
  obtain ⟨M', h1, h3⟩ := y_ifCircle1 hS.R hS.W (x := nI L) ⟨nI_le (a := 2) (b := L) h2 (by omega), nI_le (a := L) (b := 7) h7 (by decide)⟩
  rw [nI_clamp (by omega)] at h1
  exact ⟨M', h1, hS.fr (fun c hc => h3 c (by omega))⟩
theorem q_ifDays_0 (hS : St V K h M) : YQ none 19 mX5_ifDays 0 (lent 4 [.ref 0, .int (nI 2), .int (nI 0)]) [] M (some (.int (itD V 2 2 - V 2))) (St V K h) := by
  obtain ⟨M', h1, h2⟩ := y_ifDays_0 hS.R hS.G (D := 2) (by omega) (by omega)
  exact ⟨M', h1, hS.fr (fun c hc => h2 c (by omega))⟩
theorem q_ifDays_1 (hS : St V K h M) : YQ none 19 mX5_ifDays 0 (lent 4 [.ref 0, .int (nI 2), .int (nI 1)]) [] M (some (.int (itD V 2 3 - V 3))) (St V K h) := by
  obtain ⟨M', h1, h2⟩ := y_ifDays_1 hS.R hS.G (D := 2) (by omega) (by omega)
  exact ⟨M', h1, hS.fr (fun c hc => h2 c (by omega))⟩
theorem q_ifDays_2 (hS : St V K h M) : YQ none 19 mX5_ifDays 0 (lent 4 [.ref 0, .int (nI 2), .int (nI 2)]) [] M (some (.int (needsV (itD V 2)))) (St V K h) := by
  obtain ⟨M', h1, h2⟩ := y_ifDays_2 hS.R hS.G (D := 2) (by omega) (by omega)
  exact ⟨M', h1, hS.fr (fun c hc => h2 c (by omega))⟩
theorem q_bestWant1 (hS : St V K h M) {t : Nat} (ht : t < nT V) : YQ none 9 mX5_bestWant 0 (lent 7 [.ref 0, .int (nI t)]) [] M (some (.int (bwF V t 6).1)) (St V K h) := by
  obtain ⟨M', h1, h2⟩ := y_bestWant1 hS.R hS.W ht
  exact ⟨M', h1, hS.fr (fun c hc => h2 c (by omega))⟩
theorem q_bestWant0 (hS : St V K h M) : YQ none 9 mX5_bestWant 0 (lent 7 [.ref 0, .int (nI (nT V))]) [] M (some (.int (-1))) (St V K h) := YQ.of (y_bestWant0 hS.R hS.W (hasB_no hS.W)) hS
theorem q_fresh (hS : St V K h M) : YQ none 5 mX5_freshness 0 (lent 2 [.ref 0]) [] M (some (.double (frV V))) (St V K h) := YQ.of (y_fresh hS.R hS.G) hS
theorem q_undo0 (hS : St V 0 h M) : YQ none 3 mX5_undo 0 (lent 1 [.ref 0]) [] M (some (.int (-2))) (St V 0 h) := YQ.of (y_undo0 hS.1.2.2.1) hS
theorem q_restore0 (hS : St V K h M) : YQ none 3 mX5_restore 0 (lent 1 [.ref 0]) [] M (some (.int (-2))) (St V K h) := YQ.of (y_restore0 hS.2.2) hS
theorem q_undo1 {k : Nat} (hS : St V (k + 1) h M) (hG : Good (h k)) : YQ none 3 mX5_undo 0 (lent 1 [.ref 0]) [] M (some (.int (nI k))) (St (h k) k h) := by
  obtain ⟨hK, hk0, w, hw, hk2, hrow⟩ := hS.1.2
  have s1 := y_undo1 hK (by omega) hw hk0 hk2
  have hlast := hrow k (by omega)
  have h7 : nT (h k) ≤ 7 := (WF_n hG.1).1
  rw [show hb w (k + 1) k = 33 + 10 * w by unfold hb; omega] at hlast
  have hfr : ∀ c, (c < 1 ∨ 8 < c) → c ≠ 31 → updM (updM (cfM M 1 (33 + 10 * w)) 31 0 (nI (k + 1 - 1))) 31 2 (nI ((w + 3) % 4)) c = M c := fun c h1 h2 => by rw [updM_ne h2, updM_ne h2, cf_ne (by omega)]
  have hR1 : RM (updM (updM (cfM M 1 (33 + 10 * w)) 31 0 (nI (k + 1 - 1))) 31 2 (nI ((w + 3) % 4))) 1 (h k) := RM_congr (fun c a b => by rw [updM_ne (by omega), updM_ne (by omega)]) (RM_cf hlast h7 (by omega))
  have h310 : updM (updM (cfM M 1 (33 + 10 * w)) 31 0 (nI (k + 1 - 1))) 31 2 (nI ((w + 3) % 4)) 31 0 = nI k := by
    rw [updM_at, if_neg (by omega), updM_at, if_pos ⟨rfl, rfl⟩]
    rfl
  have h312 : updM (updM (cfM M 1 (33 + 10 * w)) 31 0 (nI (k + 1 - 1))) 31 2 (nI ((w + 3) % 4)) 31 2 = nI ((w + 3) % 4) := by
    rw [updM_at, if_pos ⟨rfl, rfl⟩]
  rw [Nat.add_sub_cancel] at *
  generalize updM (updM (cfM M 1 (33 + 10 * w)) 31 0 (nI k)) 31 2 (nI ((w + 3) % 4)) = M1 at *
  have hH1 : HC M1 k h := by
    refine ⟨by omega, h310, (w + 3) % 4, Nat.mod_lt _ (by omega), h312, fun i hi => ?_⟩
    have e : hb ((w + 3) % 4) k i = hb w (k + 1) i := by unfold hb; omega
    have hrg := hb_rng (w := w) (K := k + 1) (i := i)
    rw [e]
    exact RM_congr (fun c a b => hfr c (by omega) (by omega)) (hrow i (by omega))
  exact ⟨M1, s1, ⟨hR1, hH1⟩, hG, by rw [hfr 0 (by omega) (by omega)]; exact hS.2.2⟩
theorem q_call (hS : St V K h M) : YQ none 19 mX5_call 0 (lent 1 [.ref 0]) [] M (some (.int (mstV V (cirN V)))) (St (callW V) (kup K) (hup K h V)) := by
  obtain ⟨M', h1, h2, h3⟩ := y_call hS.1 hS.W
  exact ⟨M', h1, hS.up h2 h3 (Good_callW hS.G)⟩
theorem q_day (hS : St V K h M) : YQ none 6 mX5_day 0 (lent 1 [.ref 0]) [] M (some (.int (thrV V))) (St (passV V) (kup K) (hup K h V)) := by
  obtain ⟨M', h1, h2, h3⟩ := y_day hS.1 hS.G
  exact ⟨M', h1, hS.up h2 h3 (Good_pass hS.G)⟩
theorem q_come1 (hS : St V K h M) (h6 : nT V < 7) {mk x : Int32} (hm : vp_in mk 6) (hx : vp_in x 64) : YQ none 3 mX5_come 0 (lent 3 [.ref 0, .int mk, .int x]) [] M (some (.int (nI (nT V)))) (St (comeV V mk x) (kup K) (hup K h V)) := by
  obtain ⟨a, ha, e1⟩ := vp_in_of hm (by decide)
  obtain ⟨b, hb, e2⟩ := vp_in_of hx (by decide)
  have h0 := y_come1 hS.1 hS.W h6 (mk := mk) (x := x) (by rw [e1]; exact ⟨nI_pos' (by omega), nI_lt (a := a) (b := 6) ha (by decide)⟩) (by rw [e2]; exact ⟨nI_pos' (by omega), nI_le (a := b) (b := 63) (by omega) (by decide)⟩)
  rw [V1_n hS.W] at h0
  obtain ⟨M', h1, h2, h3⟩ := h0
  exact ⟨M', h1, hS.up h2 h3 (Good_come hS.G h6 hm hx)⟩
theorem q_comeL (hS : St V K h M) (h7 : nT V = 7) {mk x : Int32} (hm : vp_in mk 6) (hx : vp_in x 64) : YQ none 3 mX5_come 0 (lent 3 [.ref 0, .int mk, .int x]) [] M (some (.int (-3))) (St V K h) := by
  obtain ⟨a, ha, e1⟩ := vp_in_of hm (by decide)
  obtain ⟨b, hb, e2⟩ := vp_in_of hx (by decide)
  have h1 : M 1 7 = 7 := by rw [hS.R.1.1, V1_n hS.W, h7]; rfl
  exact YQ.of (y_comeL (by rw [e1]; exact ⟨nI_pos' (by omega), nI_lt (a := a) (b := 6) ha (by decide)⟩) (by rw [e2]; exact ⟨nI_pos' (by omega), nI_le (a := b) (b := 63) (by omega) (by decide)⟩) h1) hS
theorem q_go1 (hS : St V K h M) {t : Nat} (ht : t < nT V) : YQ none 3 mX5_go 0 (lent 3 [.ref 0, .int (nI t)]) [] M (some (.int (V (26 + 5 * t)))) (St (goV V t) (kup K) (hup K h V)) := by
  obtain ⟨M', h1, h2, h3⟩ := y_go1 hS.1 hS.W ht
  exact ⟨M', h1, hS.up h2 h3 (Good_go hS.G ht)⟩
theorem q_go0 (hS : St V K h M) : YQ none 3 mX5_go 0 (lent 3 [.ref 0, .int (nI (nT V))]) [] M (some (.int (-1))) (St V K h) := YQ.of (y_go0 hS.R hS.W (hasB_no hS.W)) hS
theorem q_want1 (hS : St V K h M) {t : Nat} (ht : t < nT V) {x : Int32} (hx : vp_in x 64) : YQ none 3 mX5_want 0 (lent 4 [.ref 0, .int (nI t), .int x]) [] M (some (.int (V (23 + 5 * t)))) (St (upd V (23 + 5 * t) x) (kup K) (hup K h V)) := by
  obtain ⟨b, hb, e2⟩ := vp_in_of hx (by decide)
  obtain ⟨M', h1, h2, h3⟩ := y_want1 hS.1 hS.W ht (x := x) (by rw [e2]; exact ⟨nI_pos' (by omega), nI_le (a := b) (b := 63) (by omega) (by decide)⟩)
  exact ⟨M', h1, hS.up h2 h3 (Good_want hS.G hx)⟩
theorem q_want0 (hS : St V K h M) {x : Int32} : YQ none 3 mX5_want 0 (lent 4 [.ref 0, .int (nI (nT V)), .int x]) [] M (some (.int (-1))) (St V K h) := YQ.of (y_want0 hS.R hS.W (fun q => by rw [hasB_no hS.W] at q; cases q.1)) hS
theorem q_life (hS : St V K h M) {k a : Nat} (hk : k < 6) (ha : 1 ≤ a) (ha9 : a ≤ 9) : YQ none 3 mX5_life 0 (lent 4 [.ref 0, .int (nI k), .int (nI a)]) [] M (some (.int (V (10 + 2 * k)))) (St (upd V (10 + 2 * k) (nI a)) (kup K) (hup K h V)) := by
  obtain ⟨M', h1, h2, h3⟩ := y_life1 hS.1 hS.W hk (x := nI a) (nI_nlt (a := a) (b := 1) ha (by omega)) (nI_nlt (a := 9) (b := a) ha9 (by decide))
  exact ⟨M', h1, hS.up h2 h3 (Good_life hS.G hk ⟨vp_in_nI (by omega) (by decide), nI_lt (a := 0) (b := a) ha (by omega)⟩)⟩
theorem q_circle (hS : St V K h M) {a : Nat} (ha : 2 ≤ a) (ha7 : a ≤ 7) : YQ none 3 mX5_circle 0 (lent 3 [.ref 0, .int (nI a)]) [] M (some (.int (nI (cirN V)))) (St (upd V 7 (nI a)) (kup K) (hup K h V)) := by
  have h0 := y_circle1 hS.1 hS.W (x := nI a) ⟨nI_le (a := 2) (b := a) ha (by omega), nI_le (a := a) (b := 7) ha7 (by decide)⟩
  rw [(cir_ok hS.W).1] at h0
  obtain ⟨M', h1, h2, h3⟩ := h0
  exact ⟨M', h1, hS.up h2 h3 (Good_cir hS.G ⟨vp_in_nI (by omega) (by decide), nI_le (a := 2) (b := a) ha (by omega)⟩)⟩
theorem q_lot (hS : St V K h M) {a : Nat} (ha : a < 10000) : YQ none 3 mX5_lot 0 (lent 3 [.ref 0, .int (nI a)]) [] M (some (.int (V 8))) (St (upd V 8 (nI a)) (kup K) (hup K h V)) := by
  obtain ⟨M', h1, h2, h3⟩ := y_lot1 hS.1 hS.W (x := nI a) (nI_pos (by omega)) (fun q => absurd ((nI_leI (a := 10000) (b := a) (by decide) (by omega)).mp q) (by omega))
  exact ⟨M', h1, hS.up h2 h3 (Good_lot hS.G (vp_in_nI ha (by decide)))⟩
theorem q_barter1 (hS : St V K h M) {a b : Nat} (ha : a < nT V) (hb : b < nT V) (hab : a ≠ b) : YQ none 6 mX5_barter 0 (lent 3 [.ref 0, .int (nI a), .int (nI b)]) [] M (some (.int (bartR V a b))) (St (bartV V a b) (kup K) (hup K h V)) := by
  obtain ⟨M', h1, h2, h3⟩ := y_barter1 hS.1 hS.W ha hb (both_T hS.W ha hb hab)
  exact ⟨M', h1, hS.up h2 h3 (Good_bart hS.G ha hb)⟩
theorem q_barter0 (hS : St V K h M) {a b : Nat} (ha : a ≤ nT V) (hb : b ≤ nT V) (hab : a = nT V ∨ b = nT V ∨ a = b) : YQ none 6 mX5_barter 0 (lent 3 [.ref 0, .int (nI a), .int (nI b)]) [] M (some (.int (-1))) (St V K h) := YQ.of (y_barter0 hS.R hS.W (both_F hS.W ha hb hab)) hS
end LK
