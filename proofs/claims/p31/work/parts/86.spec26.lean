/-! the class' state: market, history -/
def hb (w K i : Nat) : Nat := 33 + 10 * ((w + 4 - (K - 1 - i)) % 4)
def HC (M : Mem) (K : Nat) (h : Nat → Row) : Prop := K ≤ 4 ∧ M 31 0 = nI K ∧ ∃ w, w < 4 ∧ M 31 2 = nI w ∧ ∀ i, i < K → RM M (hb w K i) (h i)
def kup (K : Nat) : Nat := min (K + 1) 4
def hup (K : Nat) (h : Nat → Row) (V : Row) : Nat → Row := fun i => if K < 4 then (if i = K then V else h i) else (if i = 3 then V else h (i + 1))
def CI (M : Mem) (V : Row) (K : Nat) (h : Nat → Row) : Prop := RM M 1 V ∧ HC M K h
/-- what a call of the class leaves -/
def FC (M M' : Mem) : Prop := ∀ c, (c = 0 ∨ (21 ≤ c ∧ c ≤ 30) ∨ c = 73 ∨ c = 74 ∨ 84 ≤ c) → M' c = M c
theorem FC.tr {M M1 M2 : Mem} (h1 : FC M M1) (h2 : FC M1 M2) : FC M M2 := fun c h => (h2 c h).trans (h1 c h)
theorem FC.rf {M : Mem} : FC M M := fun _ _ => rfl
theorem FC_o {M M' : Mem} (h : FrO 1 M M') : FC M M' := fun c hc => h c (by omega)
theorem hb_rng {w K i : Nat} : 33 ≤ hb w K i ∧ hb w K i ≤ 63 := by
  unfold hb
  omega
theorem HC_fr {M M' : Mem} {K : Nat} {h : Nat → Row} (hf : ∀ c, 31 ≤ c → c ≤ 72 → M' c = M c) (hH : HC M K h) : HC M' K h := by
  obtain ⟨a, b, w, c, d, e⟩ := hH
  refine ⟨a, by rw [hf 31 (by omega) (by omega)]; exact b, w, c, by rw [hf 31 (by omega) (by omega)]; exact d, fun i hi => ?_⟩
  have := hb_rng (w := w) (K := K) (i := i)
  exact RM_congr (fun c h1 h2 => hf c (by omega) (by omega)) (e i hi)
theorem CI_o {M M' : Mem} {V V' : Row} {K : Nat} {h : Nat → Row} (hC : CI M V K h) (hR : RM M' 1 V') (hf : FrO 1 M M') : CI M' V' K h := ⟨hR, HC_fr (fun c h1 h2 => hf c (by omega)) hC.2⟩
def recC (M : Mem) (K w : Nat) : Mem := updM (cfM (updM M 31 2 (nI ((w + 1) % 4))) (33 + 10 * ((w + 1) % 4)) 1) 31 0 (nI (kup K))
theorem CI_rec {M : Mem} {V : Row} {K w : Nat} {h : Nat → Row} (hC : CI M V K h) (h7 : nT V ≤ 7) (hw : w < 4) (h2 : M 31 2 = nI w) : CI (recC M K w) V (kup K) (hup K h V) ∧ FC M (recC M K w) := by
  obtain ⟨hR, a, b, w', c, d, e⟩ := hC
  have hww : w' = w := by
    rw [h2] at d
    exact ((nI_eq (by omega) (by omega)).mp d).symm
  subst hww
  have hw1 : (w' + 1) % 4 < 4 := Nat.mod_lt _ (by decide)
  have hfr : ∀ c, c ≠ 31 → (c < 33 + 10 * ((w' + 1) % 4) ∨ 33 + 10 * ((w' + 1) % 4) + 7 < c) → recC M K w' c = M c := fun c h1 h2 => by
    unfold recC
    rw [updM_ne h1, cf_ne h2, updM_ne h1]
  have hRM1 : RM (updM M 31 2 (nI ((w' + 1) % 4))) 1 V := RM_congr (fun c h1 h2 => updM_ne (by omega)) hR
  have hnew : RM (recC M K w') (33 + 10 * ((w' + 1) % 4)) V := by
    unfold recC
    exact RM_congr (fun c h1 h2 => updM_ne (by omega)) (RM_cf hRM1 h7 (by omega))
  have hk : kup K ≤ 4 := by unfold kup; omega
  refine ⟨⟨RM_congr (fun c h1 h2 => hfr c (by omega) (by omega)) hR, hk, ?_, (w' + 1) % 4, hw1, ?_, fun i hi => ?_⟩, fun c hc => hfr c (by omega) (by omega)⟩
  · unfold recC
    simp [updM]
  · unfold recC
    rw [updM_at, if_neg (by omega), cf_ne (by omega)]
    simp [updM]
  · unfold hup
    by_cases hK : K < 4
    · have e1 : kup K = K + 1 := by unfold kup; omega
      rw [if_pos hK]
      rw [e1] at hi ⊢
      by_cases hiK : i = K
      · rw [if_pos hiK]
        have : hb ((w' + 1) % 4) (K + 1) i = 33 + 10 * ((w' + 1) % 4) := by unfold hb; omega
        rw [this]
        exact hnew
      · rw [if_neg hiK]
        have e2 : hb ((w' + 1) % 4) (K + 1) i = hb w' K i := by unfold hb; omega
        have e3 : hb w' K i ≠ 33 + 10 * ((w' + 1) % 4) := by unfold hb; omega
        have e4 := hb_rng (w := w') (K := K) (i := i)
        have e5 : ∃ q, hb w' K i = 33 + 10 * q := ⟨_, rfl⟩
        rw [e2]
        refine RM_congr (fun c h1 h2 => hfr c (by omega) ?_) (e i (by omega))
        obtain ⟨q, hq⟩ := e5
        rw [hq] at h1 h2 e3
        omega
    · have hK4 : K = 4 := by omega
      subst hK4
      have e1 : kup 4 = 4 := rfl
      rw [if_neg (by omega)]
      rw [e1] at hi ⊢
      by_cases hiK : i = 3
      · rw [if_pos hiK]
        have : hb ((w' + 1) % 4) 4 i = 33 + 10 * ((w' + 1) % 4) := by unfold hb; omega
        rw [this]
        exact hnew
      · rw [if_neg hiK]
        have e2 : hb ((w' + 1) % 4) 4 i = hb w' 4 (i + 1) := by unfold hb; omega
        have e3 : hb w' 4 (i + 1) ≠ 33 + 10 * ((w' + 1) % 4) := by unfold hb; omega
        have e5 : ∃ q, hb w' 4 (i + 1) = 33 + 10 * q := ⟨_, rfl⟩
        have e4 := hb_rng (w := w') (K := 4) (i := i + 1)
        rw [e2]
        refine RM_congr (fun c h1 h2 => hfr c (by omega) ?_) (e (i + 1) (by omega))
        obtain ⟨q, hq⟩ := e5
        rw [hq] at h1 h2 e3
        omega
theorem RM_want {M : Mem} {o : Nat} {V : Row} (hR : RM M o V) {t : Nat} (ht : t < nT V) (h7 : nT V ≤ 7) {x : Int32} : RM (updM M (o + 2) t x) o (upd V (23 + 5 * t) x) := by
  obtain ⟨⟨r7, r8, r9, r10, r11, r12, r13, r14, r15, r2⟩, rk, rt⟩ := hR
  have hn : nT (upd V (23 + 5 * t) x) = nT V := nT_upd (by omega)
  refine ⟨?_, fun j hj => ?_, fun j hj => ?_⟩
  · rw [hn]
    simp only [updM, upd, mSum]
    simp only [mSum] at r2
    grind
  · have := rk j hj
    simp only [updM, upd]
    grind
  · rw [hn] at hj
    have := rt j hj
    simp only [updM, upd]
    grind
theorem RM_life {M : Mem} {o : Nat} {V : Row} (hR : RM M o V) {k : Nat} (hk : k < 6) {x : Int32} : RM (updM M (o + 6) k x) o (upd V (10 + 2 * k) x) := by
  obtain ⟨⟨r7, r8, r9, r10, r11, r12, r13, r14, r15, r2⟩, rk, rt⟩ := hR
  have hn : nT (upd V (10 + 2 * k) x) = nT V := nT_upd (by omega)
  refine ⟨?_, fun j hj => ?_, fun j hj => ?_⟩
  · rw [hn]
    simp only [updM, upd, mSum]
    simp only [mSum] at r2
    grind
  · have := rk j hj
    simp only [updM, upd]
    grind
  · rw [hn] at hj
    have := rt j hj
    simp only [updM, upd]
    grind
theorem RM_cir {M : Mem} {o : Nat} {V : Row} (hR : RM M o V) {x : Int32} : RM (updM M o 8 x) o (upd V 7 x) := by
  obtain ⟨⟨r7, r8, r9, r10, r11, r12, r13, r14, r15, r2⟩, rk, rt⟩ := hR
  have hn : nT (upd V 7 x) = nT V := nT_upd (by omega)
  refine ⟨?_, fun j hj => ?_, fun j hj => ?_⟩
  · rw [hn]
    simp only [updM, upd, mSum]
    simp only [mSum] at r2
    grind
  · have := rk j hj
    simp only [updM, upd]
    grind
  · rw [hn] at hj
    have := rt j hj
    simp only [updM, upd]
    grind
