def FrO (o : Nat) (M M' : Mem) : Prop := ∀ c, c < o ∨ o + 9 < c → M' c = M c
theorem FrO.rf {o : Nat} {M : Mem} : FrO o M M := fun _ _ => rfl
theorem FrO.tr {o : Nat} {M M1 M2 : Mem} (h1 : FrO o M M1) (h2 : FrO o M1 M2) : FrO o M M2 := fun c h => (h2 c h).trans (h1 c h)
theorem FrO.up {o a i : Nat} {M : Mem} {x : Int32} (h : o ≤ a ∧ a ≤ o + 9) : FrO o M (updM M a i x) := fun c hc => updM_ne (by omega)
theorem FrO.kw {o : Nat} {M : Mem} : FrO o M (kwM M o) := fun c hc => by unfold kwM; rw [cpyM_ne (by omega), cpyM_ne (by omega)]
theorem FrO.tw {o t k : Nat} {a : Int32} {M : Mem} : FrO o M (twM M o t k a) := fun c hc => tw_ne (by omega)
theorem FrO.mw {o j : Nat} {M : Mem} : FrO o M (mwM M o j) := fun c hc => by unfold mwM inc; rw [updM_ne (by omega), updM_ne (by omega), updM_ne (by omega)]
theorem RM_congr {M M' : Mem} {o : Nat} {V : Row} (h : ∀ c, o ≤ c → c ≤ o + 7 → M' c = M c) (hR : RM M o V) : RM M' o V := by
  unfold RM at *
  rw [h o (by omega) (by omega), h (o + 1) (by omega) (by omega), h (o + 2) (by omega) (by omega), h (o + 3) (by omega) (by omega), h (o + 4) (by omega) (by omega), h (o + 5) (by omega) (by omega), h (o + 6) (by omega) (by omega), h (o + 7) (by omega) (by omega)]
  exact hR
theorem kw_ne {o c : Nat} {M : Mem} (h : c ≠ o + 8 ∧ c ≠ o + 9) : kwM M o c = M c := by unfold kwM; rw [cpyM_ne h.2, cpyM_ne h.1]
theorem kw_8 {o j : Nat} {M : Mem} (h : j < 7) : kwM M o (o + 8) j = M (o + 3) j := by simp [kwM, cpyM, h]
theorem kw_9 {o j : Nat} {M : Mem} (h : j < 7) : kwM M o (o + 9) j = M (o + 4) j := by simp [kwM, cpyM, h]
theorem RM_kw {M : Mem} {o : Nat} {V : Row} (hR : RM M o V) : RM (kwM M o) o V := RM_congr (fun c h1 h2 => kw_ne (by omega)) hR
def bartV (V : Row) (a b : Nat) : Row := if rsn V a b = 0 then getsV (getsV V a (kd V b) (V (25 + 5 * b))) b (kd V a) (V (25 + 5 * a)) else upd V 6 (V 6 + 1)
def bartR (V : Row) (a b : Nat) : Int32 := if rsn V a b = 0 then 10 else rsn V a b
theorem RM_h6 {M : Mem} {o : Nat} {V : Row} (hR : RM M o V) (hV : WF V) : RM (inc M o 15) o (upd V 6 (V 6 + 1)) := by
  obtain ⟨⟨r7, r8, r9, r10, r11, r12, r13, r14, r15, r2⟩, rk, rt⟩ := hR
  refine ⟨?_, fun i hi => ?_, fun j hj => ?_⟩
  · rw [nT_upd (by omega)]
    simp [inc, updM, upd, mSum]
    simp [mSum] at r2
    grind
  · have := rk i hi
    simp only [inc, updM, upd]
    grind
  · rw [nT_upd (by omega)] at hj
    have := rt j hj
    simp only [inc, updM, upd]
    grind
theorem WF_up {V : Row} (hV : WF V) {i : Nat} {x : Int32} (h : i = 0 ∨ i = 2 ∨ i = 3 ∨ i = 4 ∨ i = 5 ∨ i = 6) : WF (upd V i x) := by
  obtain ⟨w1, w2, w3, w4, w5, w6⟩ := hV
  refine ⟨by rw [pk_un (by omega)]; exact w1, fun j hj => ?_, fun k hk => ?_, ?_, ?_, ?_⟩
  · rw [nT_upd (by omega)] at hj
    have := w2 j hj
    unfold WFt at *
    rw [pk_un (by omega), pk_un (by omega), pk_un (by omega), pk_un (by omega)]
    exact this
  · rw [pk_un (by omega)]; exact w3 k hk
  · rw [pk_un (by omega)]; exact w4
  · rw [pk_un (by omega)]; exact w5
  · rw [nT_upd (by omega), pk_un (by omega)]; exact w6
theorem WF_bart {V : Row} (hV : WF V) {a b : Nat} (ha : a < nT V) (hb : b < nT V) : WF (bartV V a b) := by
  unfold bartV
  split
  · exact WF_gets (WF_gets hV ha (kd_lt hV hb) (hV.2.1 b hb).2.2.2) (by rw [nT_gets]; exact hb) (kd_lt hV ha) (hV.2.1 a ha).2.2.2
  · exact WF_up hV (by omega)
theorem nT_bart {V : Row} {a b : Nat} : nT (bartV V a b) = nT V := by
  unfold bartV
  split
  · rw [nT_gets, nT_gets]
  · rw [nT_upd (by omega)]
def dbV (V : Row) (g : Nat → Option Nat) : Nat → Row
  | 0 => V
  | i + 1 => match g i with
    | none => dbV V g i
    | some q => getsV (dbV V g i) i (kd V q) (V (25 + 5 * q))
theorem nT_db {V : Row} {g : Nat → Option Nat} : ∀ i, nT (dbV V g i) = nT V
  | 0 => rfl
  | i + 1 => by
    unfold dbV
    split
    · exact nT_db i
    · rw [nT_gets]; exact nT_db i
theorem WF_db {V : Row} (hV : WF V) {g : Nat → Option Nat} (hg : ∀ i q, i < nT V → g i = some q → q < nT V) : ∀ i, i ≤ nT V → WF (dbV V g i)
  | 0, _ => hV
  | i + 1, hi => by
    have ih := WF_db hV hg i (by omega)
    unfold dbV
    split
    · exact ih
    · rename_i q hq
      exact WF_gets ih (by rw [nT_db]; omega) (kd_lt hV (hg i q (by omega) hq)) (hV.2.1 q (hg i q (by omega) hq)).2.2.2
def gI (c : Int32) (g : Option Nat) : Int32 := match g with
  | none => c
  | some q => nI q
theorem y_callV0 {d h : Nat} {μ μ' : Md} {pc : Nat} {ls : List (Option Value)} {st : List Value} {M M1 M' : Mem} {r r1 : Option Value} {idx o ci : Nat} {L : List (Option Nat)} {q : vw_C} (hm : MdV μ' 0) (hw : (Cond.methodLink μ.2.1.cls idx μ'.2.1) ∈ WA) (hd : decode μ.1 pc = .ok (.invokevirtual idx, 3)) (ho : o < NC) (hsh : SH o = .inl (ci, L)) (hX : Y h μ' 0 (lent μ'.2.2.1 [.ref o]) [] M r1 M1) (hh : h + 1 ≤ d) (hl : 0 + 1 ≤ μ'.2.2.1) (hq : vwCl[ci]? = some q) (hcq : μ'.2.1.cls = q.1) (hst : (st.map fun v => v.category).sum ≤ 8) (k : Y d μ (pc + 3) ls (r1.toList ++ st) M1 r M') : Y d μ pc ls (.ref o :: st) M r M' := by
  have hc0 : ∀ v : Value, v ∈ ([] : List Value) → v.category = 1 := fun v hv => by cases hv
  exact y_callV hm hw hd (show (Value.ref o :: st) = ([] : List Value).reverse ++ .ref o :: st from rfl) ho hsh hX hh rfl hc0 hl hq hcq hst k
