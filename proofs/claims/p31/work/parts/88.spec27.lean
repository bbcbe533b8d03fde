/-! ages stay small -/
theorem WFa_gets {V : Row} (hV : WFa V) {t k : Nat} {a : Int32} (hk : k < 6) (ha : vp_in a 10) : WFa (getsV V t k a) := by
  intro j hj
  rw [nT_gets] at hj
  rw [gets_3 hk]
  split
  · exact ha
  · exact hV j hj
theorem WFa_db {V : Row} (hW : WF V) (hV : WFa V) {g : Nat → Option Nat} (hg : ∀ i q, i < nT V → g i = some q → q < nT V) : ∀ i, i ≤ nT V → WFa (dbV V g i)
  | 0, _ => hV
  | i + 1, hi => by
    have ih := WFa_db hW hV hg i (by omega)
    unfold dbV
    split
    · exact ih
    · rename_i q hq
      exact WFa_gets ih (kd_lt hW (hg i q (by omega) hq)) (hV q (hg i q (by omega) hq))
theorem Good_callW {V : Row} (h : Good V) : Good (callW V) := ⟨WF_callW h.1, WFa_up (WFa_db h.1 h.2 cirG_lt _ (Nat.le_refl _)) (by omega) (by omega)⟩
theorem Good_bart {V : Row} (h : Good V) {a b : Nat} (ha : a < nT V) (hb : b < nT V) : Good (bartV V a b) := by
  refine ⟨WF_bart h.1 ha hb, ?_⟩
  unfold bartV
  split
  · exact WFa_gets (WFa_gets h.2 (kd_lt h.1 hb) (h.2 b hb)) (kd_lt h.1 ha) (h.2 a ha)
  · exact WFa_up h.2 (by omega) (by omega)
theorem Good_come {V : Row} (h : Good V) (h6 : nT V < 7) {mk w : Int32} (hm : vp_in mk 6) (hw : vp_in w 64) : Good (comeV V mk w) := by
  refine ⟨WF_come h.1 h6 hm hw, fun j hj => ?_⟩
  rw [(nT_come h.1 h6).1] at hj
  rw [come_hi.2.2.2.1]
  split
  · exact vp_in_nI (n := 0) (by omega) (by omega)
  · exact h.2 j (by omega)
theorem Good_go {V : Row} (h : Good V) {t : Nat} (ht : t < nT V) : Good (goV V t) := by
  refine ⟨WF_go h.1 ht, fun j hj => ?_⟩
  rw [(nT_go h.1 ht).1] at hj
  have a3 := go_hi (w := 3) ht hj (by omega)
  rw [show 25 + 5 * j = 22 + 3 + 5 * j by omega, a3, show 22 + 3 + 5 * (if j < t then j else j + 1) = 25 + 5 * (if j < t then j else j + 1) by omega]
  exact h.2 _ (by split <;> omega)
theorem Good_pass {V : Row} (h : Good V) : Good (passV V) := by
  refine ⟨WF_passV h, fun j hj => ?_⟩
  rw [nT_pass] at hj
  have e : passV V (25 + 5 * j) = (pl V (nT V)).1 (25 + 5 * j) := by
    unfold passV
    rw [pd43 (by omega) (by omega)]
    unfold pd2
    rw [pk_un (by omega)]
    unfold pd1
    rw [pk_un (by omega)]
  rw [e]
  exact (Good_pl h (Nat.le_refl _)).2 j (by rw [nT_pl]; exact hj)
theorem vpin_b {x : Int32} {a n : Nat} (hn : n < 2 ^ 31) (h1 : nI a ≤ x) (ha : a < 2 ^ 31) (h2 : x < nI n) : vp_in x n := by
  have h0 : ¬ x < 0 := fun q => absurd (Int32.lt_of_le_of_lt h1 q) (nI_pos ha)
  obtain ⟨j, hj, rfl⟩ := nI_of h0
  exact vp_in_nI ((nI_ltI hj hn).mp h2) hn
theorem lt_of_le9 {x : Int32} {k : Nat} (hk : k + 1 < 2 ^ 31) (h : x ≤ nI k) : x < nI (k + 1) := Int32.lt_of_le_of_lt h (nI_lt (by omega) hk)
theorem WF_want {V : Row} (hV : WF V) {t : Nat} {x : Int32} (hx : vp_in x 64) : WF (upd V (23 + 5 * t) x) := by
  obtain ⟨w1, w2, w3, w4, w5, w6⟩ := hV
  refine ⟨by rw [pk_un (by omega)]; exact w1, fun j hj => ?_, fun k hk => ?_, ?_, ?_, ?_⟩
  · rw [nT_upd (by omega)] at hj
    obtain ⟨a, b, c, d⟩ := w2 j hj
    refine ⟨by rw [pk_un (by omega)]; exact a, ?_, by rw [pk_un (by omega)]; exact c, by rw [pk_un (by omega)]; exact d⟩
    by_cases hjt : j = t
    · subst hjt; rw [pk_us]; exact hx
    · rw [pk_un (by omega)]; exact b
  · rw [pk_un (by omega)]; exact w3 k hk
  · rw [pk_un (by omega)]; exact w4
  · rw [pk_un (by omega)]; exact w5
  · rw [nT_upd (by omega), pk_un (by omega)]; exact w6
theorem WF_life {V : Row} (hV : WF V) {k : Nat} {x : Int32} (hk : k < 6) (hx : vp_in x 10 ∧ 0 < x) : WF (upd V (10 + 2 * k) x) := by
  obtain ⟨w1, w2, w3, w4, w5, w6⟩ := hV
  refine ⟨by rw [pk_un (by omega)]; exact w1, fun j hj => ?_, fun k' hk' => ?_, ?_, ?_, ?_⟩
  · rw [nT_upd (by omega)] at hj
    obtain ⟨a, b, c, d⟩ := w2 j hj
    exact ⟨by rw [pk_un (by omega)]; exact a, by rw [pk_un (by omega)]; exact b, by rw [pk_un (by omega)]; exact c, by rw [pk_un (by omega)]; exact d⟩
  · by_cases hkk : k' = k
    · subst hkk; rw [pk_us]; exact hx
    · rw [pk_un (by omega)]; exact w3 k' hk'
  · rw [pk_un (by omega)]; exact w4
  · rw [pk_un (by omega)]; exact w5
  · rw [nT_upd (by omega), pk_un (by omega)]; exact w6
theorem WF_cir {V : Row} (hV : WF V) {x : Int32} (hx : vp_in x 8 ∧ 2 ≤ x) : WF (upd V 7 x) := by
  obtain ⟨w1, w2, w3, w4, w5, w6⟩ := hV
  refine ⟨by rw [pk_un (by omega)]; exact w1, fun j hj => ?_, fun k' hk' => by rw [pk_un (by omega)]; exact w3 k' hk', ?_, by rw [pk_un (by omega)]; exact w5, by rw [nT_upd (by omega), pk_un (by omega)]; exact w6⟩
  · rw [nT_upd (by omega)] at hj
    obtain ⟨a, b, c, d⟩ := w2 j hj
    exact ⟨by rw [pk_un (by omega)]; exact a, by rw [pk_un (by omega)]; exact b, by rw [pk_un (by omega)]; exact c, by rw [pk_un (by omega)]; exact d⟩
  · rw [pk_us]; exact hx
theorem Good_want {V : Row} (h : Good V) {t : Nat} {x : Int32} (hx : vp_in x 64) : Good (upd V (23 + 5 * t) x) := ⟨WF_want h.1 hx, WFa_up h.2 (by omega) (by omega)⟩
theorem Good_life {V : Row} (h : Good V) {k : Nat} {x : Int32} (hk : k < 6) (hx : vp_in x 10 ∧ 0 < x) : Good (upd V (10 + 2 * k) x) := ⟨WF_life h.1 hk hx, WFa_up h.2 (by omega) (by omega)⟩
theorem Good_cir {V : Row} (h : Good V) {x : Int32} (hx : vp_in x 8 ∧ 2 ≤ x) : Good (upd V 7 x) := ⟨WF_cir h.1 hx, WFa_up h.2 (by omega) (by omega)⟩
theorem Good_lot {V : Row} (h : Good V) {x : Int32} (hx : vp_in x 10000) : Good (upd V 8 x) := ⟨WF_lot h.1 hx, WFa_up h.2 (by omega) (by omega)⟩
/-! what holds between calls -/
def hr (H : Row) (i : Nat) : Row := fun j => H (57 * i + j)
def InvM (M : Mem) (K : Nat) : Prop := CI M (M 85) K (hr (M 87)) ∧ Good (M 85) ∧ M 84 3 = nI K ∧ ∀ i, i < K → Good (hr (M 87) i)
def InvS (M : Mem) : Prop := M 0 7 = M 84 5 ∧ (M 84 5 = 0 ∨ (M 84 5 = 1 ∧ RM M 21 (M 88) ∧ Good (M 88)))
def InvT (M : Mem) : Prop := (M 0 9 = -1 ∧ M 84 8 = -4 ∧ M 84 9 = -4) ∨ ∃ p, p < 60 ∧ M 0 9 = nI p ∧ M 84 9 = nI p ∧ M 0 8 = M 84 8
/-- what a call of the reference leaves -/
def FR (M M' : Mem) : Prop := (∀ c, (c < 84 ∨ c = 88 ∨ c = 89) → M' c = M c) ∧ ∀ i, i ≠ 3 → i ≠ 11 → i ≠ 16 → M' 84 i = M 84 i
theorem FR.rf {M : Mem} : FR M M := ⟨fun _ _ => rfl, fun _ _ _ _ => rfl⟩
theorem FR.tr {M M1 M2 : Mem} (h1 : FR M M1) (h2 : FR M1 M2) : FR M M2 := ⟨fun c h => (h2.1 c h).trans (h1.1 c h), fun i a b c => (h2.2 i a b c).trans (h1.2 i a b c)⟩
/-- the reference after a call that records -/
def RQ (M M2 : Mem) (V' : Row) (K : Nat) : Prop := M2 85 = V' ∧ M2 87 = recH M K ∧ M2 84 3 = nI (recK K) ∧ FR M M2
/-- cells that are scratch between calls -/
def FS (M M' : Mem) : Prop := (∀ c, c < 9 ∨ (21 ≤ c ∧ c < 75) ∨ c = 85 ∨ c = 87 ∨ c = 88 ∨ c = 89 → M' c = M c) ∧ ∀ i, i ≠ 11 → i ≠ 16 → M' 84 i = M 84 i
theorem FS.tr {M M1 M2 : Mem} (h1 : FS M M1) (h2 : FS M1 M2) : FS M M2 := ⟨fun c h => (h2.1 c h).trans (h1.1 c h), fun i a b => (h2.2 i a b).trans (h1.2 i a b)⟩
theorem FS.rf {M : Mem} : FS M M := ⟨fun _ _ => rfl, fun _ _ _ => rfl⟩
theorem recK_kup {K : Nat} (h : K ≤ 4) : recK K = kup K := by
  unfold recK kup
  split <;> omega
theorem hr_rec {M : Mem} {K : Nat} (hK : K ≤ 4) {i j : Nat} (hi : i < kup K) (hj : j < 57) : hr (recH M K) i j = hup K (hr (M 87)) (M 85) i j := by
  unfold hr recH hup
  by_cases h4 : K = 4
  · subst h4
    rw [if_pos rfl, if_neg (by omega)]
    unfold ptN
    by_cases h3 : i = 3
    · subst h3
      rw [if_pos (by omega), if_pos rfl]
      exact congrArg (M 85) (by omega)
    · have : kup 4 = 4 := rfl
      rw [if_neg (by omega), if_neg h3]
      unfold shN
      rw [if_pos (by omega)]
      exact congrArg (M 87) (by omega)
  · rw [if_neg h4, if_pos (by omega)]
    unfold ptN
    by_cases hiK : i = K
    · subst hiK
      rw [if_pos (by omega), if_pos rfl]
      exact congrArg (M 85) (by omega)
    · have : kup K = K + 1 := by unfold kup; omega
      rw [if_neg (by omega), if_neg hiK]
theorem HC_rc {M : Mem} {K : Nat} {h h' : Nat → Row} (hH : HC M K h) (he : ∀ i, i < K → ∀ j, j < 57 → h' i j = h i j) (h7 : ∀ i, i < K → nT (h i) ≤ 7) : HC M K h' := by
  obtain ⟨a, b, w, c, d, e⟩ := hH
  exact ⟨a, b, w, c, d, fun i hi => RM_rc (e i hi) (he i hi) (h7 i hi)⟩
theorem hup_all {P : Row → Prop} {K : Nat} {h : Nat → Row} {V : Row} (hK : K ≤ 4) (hV : P V) (hh : ∀ i, i < K → P (h i)) : ∀ i, i < kup K → P (hup K h V i) := by
  intro i hi
  unfold hup
  unfold kup at hi
  split
  · split
    · exact hV
    · exact hh i (by omega)
  · split
    · exact hV
    · exact hh (i + 1) (by omega)
theorem RM_same {M M' : Mem} {o : Nat} {V : Row} (h : ∀ c, o ≤ c → c ≤ o + 7 → M' c = M c) (hR : RM M o V) : RM M' o V := RM_congr h hR
theorem InvS_fr {M M' : Mem} (h : InvS M) (h0 : M' 0 7 = M 0 7) (h84 : M' 84 5 = M 84 5) (h88 : M' 88 = M 88) (hm : ∀ c, 21 ≤ c → c ≤ 28 → M' c = M c) : InvS M' := by
  obtain ⟨a, b⟩ := h
  refine ⟨by rw [h0, h84]; exact a, ?_⟩
  rw [h84, h88]
  exact b.imp id (fun q => ⟨q.1, RM_congr (fun c h1 h2 => hm c h1 (by omega)) q.2.1, q.2.2⟩)
theorem InvT_fr {M M' : Mem} (h : InvT M) (h0 : M' 0 = M 0) (h8 : M' 84 8 = M 84 8) (h9 : M' 84 9 = M 84 9) : InvT M' := by
  unfold InvT at *
  rw [h0, h8, h9]
  exact h
