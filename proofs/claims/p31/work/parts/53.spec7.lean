def qV (V : Row) (i : Nat) : Row := pd2 (pd1 (pl V i).1 (pl V i).2) (pl V i).2
theorem dl_q {V : Row} {i : Nat} : dl (ps1 (qV V i) i) i = dl (ps1 (pl V i).1 i) i := by
  have e : ∀ x : Nat, 5 ≤ x → ps1 (qV V i) i x = ps1 (pl V i).1 i x := by
    intro x hx
    simp only [ps1, qV, pd2, pd1, upd]
    grind
  have e1 : kd (ps1 (qV V i) i) i = kd (ps1 (pl V i).1 i) i := by unfold kd; rw [e _ (by omega)]
  have e2 : dli (ps1 (qV V i) i) i = dli (ps1 (pl V i).1 i) i := by unfold dli; rw [e1, e _ (by omega), e _ (by omega)]
  unfold dl
  rw [e2]
def rnV (V : Row) (j : Nat) : Row := if dl V j = 0 then upd (upd (ps2 V j) 3 (V 3 + 1)) 4 (V 4 + 1) else V
theorem qV_s {V : Row} {i : Nat} : qV V (i + 1) = rnV (ps1 (qV V i) i) i := by
  unfold rnV
  rw [dl_q]
  unfold qV
  rw [pl]
  split
  · funext x
    simp only [pd2, pd1, ps2, ps1, upd]
    grind (splits := 20)
  · funext x
    simp only [pd2, pd1, ps1, upd]
    grind (splits := 20)
theorem RM_age {M : Mem} {o : Nat} {V : Row} (hR : RM M o V) {i : Nat} : RM (inc M (o + 4) i) o (ps1 V i) := by
  obtain ⟨⟨r7, r8, r9, r10, r11, r12, r13, r14, r15, r2⟩, rk, rt⟩ := hR
  have hn : nT (ps1 V i) = nT V := nT_upd (by omega)
  have hs : mSum (ps1 V i) = mSum V := by
    simp only [mSum, ps1, upd]
    grind
  refine ⟨?_, fun j hj => ?_, fun j hj => ?_⟩
  · rw [hn, hs]
    simp only [inc, updM, ps1, upd]
    grind
  · have := rk j hj
    simp only [inc, updM, ps1, upd]
    grind
  · rw [hn] at hj
    have := rt j hj
    simp only [inc, updM, ps1, upd]
    grind
theorem RM_renew {M : Mem} {o : Nat} {V : Row} (hR : RM M o V) {i : Nat} (hi : i < nT V) : RM (mwM (inc M o 12) o i) o (upd (upd (ps2 V i) 3 (V 3 + 1)) 4 (V 4 + 1)) := by
  obtain ⟨⟨r7, r8, r9, r10, r11, r12, r13, r14, r15, r2⟩, rk, rt⟩ := hR
  have hn : nT (upd (upd (ps2 V i) 3 (V 3 + 1)) 4 (V 4 + 1)) = nT V := by
    rw [nT_upd (by omega), nT_upd (by omega)]
    unfold ps2
    rw [nT_upd (by omega), nT_upd (by omega)]
  have hs : mSum (upd (upd (ps2 V i) 3 (V 3 + 1)) 4 (V 4 + 1)) = mSum V := by
    simp only [mSum, ps2, upd]
    grind
  refine ⟨?_, fun j hj => ?_, fun j hj => ?_⟩
  · rw [hn, hs]
    simp only [mwM, inc, updM, ps2, upd]
    grind
  · have := rk j hj
    simp only [mwM, inc, updM, ps2, upd]
    grind (splits := 20)
  · rw [hn] at hj
    have h1 := rt j hj
    have h2 := rt i hi
    simp only [mwM, inc, updM, ps2, upd]
    refine ⟨?_, ?_, ?_, ?_, ?_⟩ <;> grind (splits := 20)
theorem age_in {a : Int32} (ha : vp_in a 10) : vp_in (a + 1) 11 := by
  obtain ⟨y, hy, rfl⟩ := vp_in_of ha (by decide)
  rw [nI_1]
  exact vp_in_nI (by omega) (by decide)
theorem WF_ps1 {V : Row} (hV : WF V) {i : Nat} (ha : i < nT V → vp_in (V (25 + 5 * i)) 10) : WF (ps1 V i) := by
  obtain ⟨w1, w2, w3, w4, w5, w6⟩ := hV
  have hn : nT (ps1 V i) = nT V := nT_upd (by omega)
  refine ⟨?_, fun j hj => ?_, fun k hk => ?_, ?_, ?_, ?_⟩
  · unfold ps1; rw [pk_un (by omega)]; exact w1
  · rw [hn] at hj
    obtain ⟨a1, a2, a3, a4⟩ := w2 j hj
    unfold WFt
    unfold ps1
    rw [pk_un (by omega), pk_un (by omega), pk_un (by omega)]
    refine ⟨a1, a2, a3, ?_⟩
    by_cases hji : j = i
    · subst hji
      rw [pk_us]
      exact age_in (ha hj)
    · rw [pk_un (by omega)]
      exact a4
  · unfold ps1; rw [pk_un (by omega)]; exact w3 k hk
  · unfold ps1; rw [pk_un (by omega)]; exact w4
  · unfold ps1; rw [pk_un (by omega)]; exact w5
  · rw [hn]; unfold ps1; rw [pk_un (by omega)]; exact w6
theorem nT_rn {V : Row} {i : Nat} : nT (rnV V i) = nT V := by
  unfold rnV
  split
  · rw [nT_upd (by omega), nT_upd (by omega)]
    unfold ps2
    rw [nT_upd (by omega), nT_upd (by omega)]
  · rfl
theorem WF_rn {V : Row} (hV : WF V) {i : Nat} (hi : i < nT V) : WF (rnV V i) := by
  have hn : nT (rnV V i) = nT V := nT_rn
  unfold rnV at *
  split
  · rename_i hz
    rw [if_pos hz] at hn
    obtain ⟨w1, w2, w3, w4, w5, w6⟩ := hV
    refine ⟨?_, fun j hj => ?_, fun k hk => ?_, ?_, ?_, ?_⟩
    · simp only [ps2, upd]; rw [if_neg (by omega), if_neg (by omega), if_neg (by omega), if_neg (by omega)]; exact w1
    · rw [hn] at hj
      obtain ⟨a1, a2, a3, a4⟩ := w2 j hj
      obtain ⟨b1, b2, b3, -⟩ := w2 i hi
      refine ⟨?_, ?_, ?_, ?_⟩
      · simp only [ps2, upd]; rw [if_neg (by omega), if_neg (by omega), if_neg (by omega), if_neg (by omega)]; exact a1
      · simp only [ps2, upd]; rw [if_neg (by omega), if_neg (by omega), if_neg (by omega), if_neg (by omega)]; exact a2
      · simp only [ps2, upd]; rw [if_neg (by omega), if_neg (by omega), if_neg (by omega)]
        split
        · exact b1
        · exact a3
      · simp only [ps2, upd]; rw [if_neg (by omega), if_neg (by omega)]
        split
        · exact vp_in_nI (n := 0) (by omega) (by omega)
        · rw [if_neg (by omega)]; exact a4
    · simp only [ps2, upd]; rw [if_neg (by omega), if_neg (by omega), if_neg (by omega), if_neg (by omega)]; exact w3 k hk
    · simp only [ps2, upd]; rw [if_neg (by omega), if_neg (by omega), if_neg (by omega), if_neg (by omega)]; exact w4
    · simp only [ps2, upd]; rw [if_neg (by omega), if_neg (by omega), if_neg (by omega), if_neg (by omega)]; exact w5
    · rw [hn]; simp only [ps2, upd]; rw [if_neg (by omega), if_neg (by omega), if_neg (by omega), if_neg (by omega)]; exact w6
  · exact hV
theorem nT_q {V : Row} : ∀ i, nT (qV V i) = nT V
  | 0 => by
    show nT (upd (upd (upd V 0 (V 0 + 1)) 3 _) 4 _) = nT V
    rw [nT_upd (by omega), nT_upd (by omega), nT_upd (by omega)]
  | i + 1 => by
    rw [qV_s, nT_rn]
    unfold ps1
    rw [nT_upd (by omega)]
    exact nT_q i
theorem age_step {l a : Int32} (hl : vp_in l 10) (ha : vp_in a 10) (h : 0 < l - (a + 1)) : vp_in (a + 1) 10 := by
  obtain ⟨x, hx, rfl⟩ := vp_in_of hl (by decide)
  obtain ⟨y, hy, rfl⟩ := vp_in_of ha (by decide)
  rw [nI_1] at h ⊢
  have h1 := pk_sub_toInt (a := x) (b := y + 1) (by omega) (by omega)
  have h2 : (0 : Int32).toInt < (nI x - nI (y + 1)).toInt := Int32.lt_iff_toInt_lt.mp h
  rw [h1] at h2
  have h3 : (0 : Int32).toInt = 0 := by decide
  exact vp_in_nI (by omega) (by decide)
theorem WFa_up {V : Row} (hV : WFa V) {i : Nat} {x : Int32} (h : i ≠ 1) (h2 : ∀ j, i ≠ 25 + 5 * j) : WFa (upd V i x) := by
  intro j hj
  rw [nT_upd h] at hj
  rw [pk_un (h2 j).symm]
  exact hV j hj
theorem ps1_in {V : Row} (h : Good V) {i : Nat} : WF (ps1 V i) := WF_ps1 h.1 (h.2 i)
theorem WFa_rn {V : Row} (h : Good V) {i : Nat} (hi : i < nT V) : WFa (rnV (ps1 V i) i) := by
  have hn1 : nT (ps1 V i) = nT V := by unfold ps1; rw [nT_upd (by omega)]
  have hw1 := ps1_in h (i := i)
  have e0 : ∀ j, j < nT V → j ≠ i → vp_in (ps1 V i (25 + 5 * j)) 10 := fun j hj hne => by
    unfold ps1
    rw [pk_un (by omega)]
    exact h.2 j hj
  intro j hj
  rw [nT_rn, hn1] at hj
  unfold rnV
  split
  · by_cases hji : j = i
    · subst hji
      rw [pk_un (by omega), pk_un (by omega)]
      unfold ps2
      rw [pk_us]
      exact vp_in_nI (n := 0) (by omega) (by omega)
    · rw [pk_un (by omega), pk_un (by omega)]
      unfold ps2
      rw [pk_un (by omega), pk_un (by omega)]
      exact e0 j hj hji
  · rename_i hd
    by_cases hji : j = i
    · subst hji
      have hdl : 0 < dli (ps1 V j) j := by
        rcases Classical.em (0 < dli (ps1 V j) j) with q | q
        · exact q
        · exact absurd (dl_0 q) hd
      have hl := (hw1.2.2.1 _ (kd_lt hw1 (j := j) (by rw [hn1]; exact hj))).1
      unfold dli at hdl
      have e : ps1 V j (25 + 5 * j) = V (25 + 5 * j) + 1 := by unfold ps1; rw [pk_us]
      rw [e] at hdl ⊢
      exact age_step hl (h.2 j hj) hdl
    · exact e0 j hj hji
theorem Good_q {V : Row} (hV : Good V) : ∀ i, i ≤ nT V → Good (qV V i)
  | 0, _ => ⟨WF_up (WF_up (WF_up hV.1 (by omega)) (by omega)) (by omega), WFa_up (WFa_up (WFa_up hV.2 (by omega) (by omega)) (by omega) (by omega)) (by omega) (by omega)⟩
  | i + 1, h => by
    have ih := Good_q hV i (by omega)
    have hi : i < nT (qV V i) := by rw [nT_q]; omega
    rw [qV_s]
    refine ⟨WF_rn (ps1_in ih) ?_, WFa_rn ih hi⟩
    unfold ps1
    rw [nT_upd (by omega)]
    exact hi
theorem WF_q {V : Row} (hV : Good V) {i : Nat} (h : i ≤ nT V) : WF (qV V i) := (Good_q hV i h).1
theorem lot_nI {j : Nat} (hj : j < 10000) : lotx (nI j) = nI ((421 * j + 1663) % 10000) := by
  unfold lotx
  rw [show (421 : Int32) = nI 421 from rfl, show (1663 : Int32) = nI 1663 from rfl, show (10000 : Int32) = nI 10000 from rfl, pk_mul, nI_add]
  exact pk_rem (by omega) (by omega) (by omega)
theorem lot_in {x : Int32} (h : vp_in x 10000) : vp_in (lotx x) 10000 := by
  obtain ⟨j, hj, rfl⟩ := vp_in_of h (by decide)
  rw [lot_nI hj]
  exact vp_in_nI (Nat.mod_lt _ (by omega)) (by decide)
theorem rem_nI {a b : Nat} (ha : a < 2 ^ 31) (h0 : 0 < b) (hb : b < 2 ^ 31) : rem32 (nI a) (nI b) = nI (a % b) := pk_rem ha h0 hb
theorem RM_lot {M : Mem} {o : Nat} {V : Row} (hR : RM M o V) {x : Int32} : RM (updM M o 10 x) o (upd V 8 x) := by
  obtain ⟨⟨r7, r8, r9, r10, r11, r12, r13, r14, r15, r2⟩, rk, rt⟩ := hR
  have hn : nT (upd V 8 x) = nT V := nT_upd (by omega)
  refine ⟨?_, fun j hj => ?_, fun j hj => ?_⟩
  · rw [hn]
    simp only [updM, upd, mSum]
    simp only [mSum] at r2
    grind
  · have := rk j hj
    simp only [updM, upd]
    grind
  · rw [hn] at hj
    have := rt j hj
    simp only [updM, upd]
    grind
theorem RM_shut {M : Mem} {o : Nat} {V : Row} (hR : RM M o V) {x y : Int32} (h : (x = -1 ∧ y = -4) ∨ (x = y ∧ vp_in y (nT V))) : RM (updM M o 11 x) o (upd V 9 y) := by
  obtain ⟨⟨r7, r8, r9, r10, r11, r12, r13, r14, r15, r2⟩, rk, rt⟩ := hR
  have hn : nT (upd V 9 y) = nT V := nT_upd (by omega)
  refine ⟨?_, fun j hj => ?_, fun j hj => ?_⟩
  · rw [hn]
    simp only [updM, upd, mSum]
    simp only [mSum] at r2
    grind
  · have := rk j hj
    simp only [updM, upd]
    grind
  · rw [hn] at hj
    have := rt j hj
    simp only [updM, upd]
    grind
theorem WF_lot {V : Row} (hV : WF V) {x : Int32} (hx : vp_in x 10000) : WF (upd V 8 x) := by
  obtain ⟨w1, w2, w3, w4, w5, w6⟩ := hV
  have hn : nT (upd V 8 x) = nT V := nT_upd (by omega)
  refine ⟨by rw [pk_un (by omega)]; exact w1, fun j hj => ?_, fun k hk => ?_, by rw [pk_un (by omega)]; exact w4, by rw [pk_us]; exact hx, by rw [hn, pk_un (by omega)]; exact w6⟩
  · rw [hn] at hj
    have := w2 j hj
    unfold WFt at *
    rw [pk_un (by omega), pk_un (by omega), pk_un (by omega), pk_un (by omega)]
    exact this
  · rw [pk_un (by omega)]; exact w3 k hk
theorem WF_shut {V : Row} (hV : WF V) {x : Int32} (hx : x = -4 ∨ vp_in x (nT V)) : WF (upd V 9 x) := by
  obtain ⟨w1, w2, w3, w4, w5, w6⟩ := hV
  have hn : nT (upd V 9 x) = nT V := nT_upd (by omega)
  refine ⟨by rw [pk_un (by omega)]; exact w1, fun j hj => ?_, fun k hk => ?_, by rw [pk_un (by omega)]; exact w4, by rw [pk_un (by omega)]; exact w5, by rw [hn, pk_us]; exact hx⟩
  · rw [hn] at hj
    have := w2 j hj
    unfold WFt at *
    rw [pk_un (by omega), pk_un (by omega), pk_un (by omega), pk_un (by omega)]
    exact this
  · rw [pk_un (by omega)]; exact w3 k hk
/-- the draw of the stall -/
def shx (V : Row) : Int32 := rem32 (V 8) (V 1 + 1)
theorem shx_nI {V : Row} (hV : WF V) : ∃ a, a ≤ nT V ∧ shx V = nI a ∧ a = (V 8).toNatClampNeg % (nT V + 1) := by
  obtain ⟨hn1, hn2⟩ := WF_n hV
  have h8 := vpin_nI hV.2.2.2.2.1
  have h8l := vpin_lt hV.2.2.2.2.1
  refine ⟨(V 8).toNatClampNeg % (nT V + 1), by have := Nat.mod_lt (V 8).toNatClampNeg (show 0 < nT V + 1 by omega); omega, ?_, rfl⟩
  unfold shx
  rw [hn2, nI_1]
  conv => lhs; rw [h8]
  exact rem_nI (by omega) (by omega) (by omega)
theorem sh_cases {V : Row} (hV : WF V) : (hasB V (shx V) = true ∧ shx V < V 1 ∧ vp_in (shx V) (nT V)) ∨ (hasB V (shx V) = false ∧ ¬ shx V < V 1) := by
  obtain ⟨hn1, hn2⟩ := WF_n hV
  obtain ⟨a, ha, he, -⟩ := shx_nI hV
  rw [he]
  by_cases h : a < nT V
  · left
    refine ⟨by rw [hasB_nI hV (by omega)]; exact decide_eq_true h, by rw [hn2]; exact nI_lt h (by omega), vp_in_nI h (by omega)⟩
  · right
    refine ⟨by rw [hasB_nI hV (by omega)]; exact decide_eq_false h, by rw [hn2]; exact nI_nlt (by omega) (by omega)⟩
