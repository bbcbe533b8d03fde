/-! what a market call does to the accounts -/
theorem dbV_n {V : Row} {g : Nat → Option Nat} {i : Nat} (h : g i = none) : dbV V g (i + 1) = dbV V g i := by rw [dbV, h]
theorem dbV_s {V : Row} {g : Nat → Option Nat} {i q : Nat} (h : g i = some q) : dbV V g (i + 1) = getsV (dbV V g i) i (kd V q) (V (25 + 5 * q)) := by rw [dbV, h]
section DB
variable {V : Row} {g : Nat → Option Nat}
theorem db_lo (hV : WF V) (hg : ∀ i q, i < nT V → g i = some q → q < nT V) {x : Nat} (hx : x < 22) (h2 : x ≠ 2) (hm : ∀ k, x ≠ 11 + 2 * k) : ∀ i, i ≤ nT V → dbV V g i x = V x
  | 0, _ => rfl
  | i + 1, hi => by
    have ih := db_lo hV hg hx h2 hm i (by omega)
    cases h : g i with
    | none => rw [dbV_n h, ih]
    | some q => rw [dbV_s h, gets_lo hx (kd_lt hV (hg i q (by omega) h)), if_neg h2, if_neg (hm _), ih]
theorem db_2 (hV : WF V) (hg : ∀ i q, i < nT V → g i = some q → q < nT V) : ∀ i, i ≤ nT V → dbV V g i 2 = V 2 + nI (cnt g i)
  | 0, _ => (Int32.add_zero _).symm
  | i + 1, hi => by
    have ih := db_2 hV hg i (by omega)
    cases h : g i with
    | none => rw [dbV_n h, cnt_n h, ih]
    | some q => rw [dbV_s h, cnt_s h, gets_lo (by omega) (kd_lt hV (hg i q (by omega) h)), if_pos rfl, ih, ← nI_1, Int32.add_assoc]
theorem db_w (hV : WF V) (hg : ∀ i q, i < nT V → g i = some q → q < nT V) {j : Nat} : ∀ i, i ≤ nT V → i ≤ j → dbV V g i (23 + 5 * j) = V (23 + 5 * j) ∧ dbV V g i (26 + 5 * j) = V (26 + 5 * j)
  | 0, _, _ => ⟨rfl, rfl⟩
  | i + 1, hi, hj => by
    have ih := db_w (j := j) hV hg i (by omega) (by omega)
    cases h : g i with
    | none => rw [dbV_n h]; exact ih
    | some q => rw [dbV_s h, gets_1 (kd_lt hV (hg i q (by omega) h)), gets_4 (kd_lt hV (hg i q (by omega) h)), if_neg (by omega), if_neg (by omega)]; exact ih
theorem db_met (hV : WF V) (hg : ∀ i q, i < nT V → g i = some q → q < nT V) {c j : Nat} (hj : j < nT V) (hB : vp_in (V (26 + 5 * j)) (c + 1)) (hc : c + 2 < 2 ^ 31) : ∀ i, i ≤ nT V → vp_in (dbV V g i (26 + 5 * j)) (c + 2)
  | 0, _ => vpin_le hB (by omega)
  | i + 1, hi => by
    have ih := db_met hV hg hj hB hc i (by omega)
    cases h : g i with
    | none => rw [dbV_n h]; exact ih
    | some q =>
      rw [dbV_s h, gets_4 (kd_lt hV (hg i q (by omega) h))]
      by_cases hji : j = i
      · subst hji
        rw [if_pos rfl, (db_w hV hg j (by omega) (Nat.le_refl _)).2]
        exact add1_in hB (by omega)
      · rw [if_neg hji]; exact ih
theorem bits_dec {x : Int32} {k : Nat} (hx : vp_in x 64) (hk : k < 6) (h : x >>> (nI k &&& 31) &&& 1 = 1) : bits7 (x &&& (1 <<< (nI k &&& 31) ^^^ -1)) = bits7 x - 1 := by
  obtain ⟨j, hj, rfl⟩ := vp_in_of hx (by decide)
  have h1 : ∀ (j : Fin 64) (k : Fin 6), nI j.val >>> (nI k.val &&& 31) &&& 1 = 1 → bits7 (nI j.val &&& (1 <<< (nI k.val &&& 31) ^^^ -1)) = bits7 (nI j.val) - 1 := by decide +kernel
  exact h1 ⟨j, hj⟩ ⟨k, hk⟩ h
theorem sumF_dec {f f' : Nat → Int32} {i : Nat} (h1 : f' i = f i - 1) (h2 : ∀ j, j ≠ i → f' j = f j) : ∀ n, sumF f' n = if i < n then sumF f n - 1 else sumF f n
  | 0 => rfl
  | n + 1 => by
    rw [sumF, sumF, sumF_dec h1 h2 n]
    by_cases hi : i < n
    · rw [if_pos hi, if_pos (by omega), h2 n (by omega)]
      grind
    · rw [if_neg hi]
      by_cases hn : i = n
      · subst hn
        rw [if_pos (by omega), h1]
        grind
      · rw [if_neg (by omega), h2 n (fun q => hn q.symm)]
theorem db_needs (hV : WF V) (hg : ∀ i q, i < nT V → g i = some q → q < nT V ∧ canV V i q = true) : ∀ i, i ≤ nT V → sumF (fun t => bits7 (dbV V g i (23 + 5 * t))) (nT V) = needsV V - nI (cnt g i)
  | 0, _ => (Int32.sub_zero _).symm
  | i + 1, hi => by
    have hg' : ∀ i q, i < nT V → g i = some q → q < nT V := fun i q a b => (hg i q a b).1
    have ih := db_needs hV hg i (by omega)
    cases h : g i with
    | none => rw [dbV_n h, cnt_n h, ih]
    | some q =>
      obtain ⟨hq, hc⟩ := hg i q (by omega) h
      have hk := kd_lt hV hq
      have hw := (db_w hV hg' (j := i) i (by omega) (Nat.le_refl _)).1
      have hwb : V (23 + 5 * i) >>> (nI (kd V q) &&& 31) &&& 1 = 1 := by
        simp only [canV, Bool.and_eq_true, decide_eq_true_eq] at hc
        have h1 := hc.2
        unfold wb at h1
        rw [vpin_nI (hV.2.1 q hq).2.2.1] at h1
        exact h1
      rw [dbV_s h, cnt_s h]
      rw [sumF_dec (f := fun t => bits7 (dbV V g i (23 + 5 * t))) (i := i) ?_ ?_ (nT V), if_pos (by omega), ih, ← nI_1]
      · grind
      · show bits7 (getsV (dbV V g i) i (kd V q) (V (25 + 5 * q)) (23 + 5 * i)) = bits7 (dbV V g i (23 + 5 * i)) - 1
        rw [gets_1 hk, if_pos rfl, hw]
        exact bits_dec (hV.2.1 i (by omega)).2.1 hk hwb
      · intro j hj
        show bits7 (getsV (dbV V g i) i (kd V q) (V (25 + 5 * q)) (23 + 5 * j)) = bits7 (dbV V g i (23 + 5 * j))
        rw [gets_1 hk, if_neg hj]
end DB
theorem cirG_ok {V : Row} : ∀ i q, i < nT V → cirG V i = some q → q < nT V ∧ canV V i q = true := fun i q hi h => ⟨(bst_val.1 i q hi h).1, (bst_val.1 i q hi h).2.1⟩
theorem nT_callW {V : Row} : nT (callW V) = nT V := nT_call
theorem call_2 {V : Row} (hV : WF V) : callW V 2 = V 2 + mstV V (cirN V) := by
  unfold callW cllV
  rw [pk_un (by omega), db_2 hV cirG_lt _ (Nat.le_refl _), mst_eq]
  rfl
theorem call_5 {V : Row} (hV : WF V) : callW V 5 = V 5 + 1 := by
  unfold callW cllV
  rw [pk_us, db_lo hV cirG_lt (by omega) (by omega) (fun k => by omega) _ (Nat.le_refl _)]
theorem call_needs {V : Row} (hV : WF V) : needsV (callW V) = needsV V - mstV V (cirN V) := by
  unfold needsV
  rw [nT_callW]
  have h1 := db_needs hV cirG_ok _ (Nat.le_refl _)
  rw [mst_eq]
  refine Eq.trans (sumF_congr _ (fun j _ => ?_)) h1
  unfold callW cllV
  rw [pk_un (by omega)]
theorem MB_call {V : Row} (hV : WF V) {c : Nat} (hB : MB V c) (hc : c + 2 < 2 ^ 31) : MB (callW V) (c + 1) := by
  intro j hj
  rw [nT_callW] at hj
  unfold callW cllV
  rw [pk_un (by omega)]
  exact db_met hV cirG_lt hj (hB j hj) hc _ (Nat.le_refl _)
/-! what a day does -/
section DY
variable {V : Row}
theorem pl_keep {y : Nat} (h0 : y ≠ 0) (h : ∀ i, y ≠ 24 + 5 * i ∧ y ≠ 25 + 5 * i) : ∀ i, (pl V i).1 y = V y
  | 0 => pk_un h0
  | i + 1 => by
    have ih := pl_keep h0 h i
    obtain ⟨h1, h2⟩ := h i
    rw [pl]
    split
    · show ps2 (ps1 (pl V i).1 i) i y = V y
      unfold ps2 ps1
      rw [pk_un h2, pk_un h1, pk_un h2]
      exact ih
    · show ps1 (pl V i).1 i y = V y
      unfold ps1
      rw [pk_un h2]
      exact ih
theorem pl_0 : ∀ i, (pl V i).1 0 = V 0 + 1
  | 0 => by
    show upd V 0 (V 0 + 1) 0 = _
    exact pk_us
  | i + 1 => by
    have ih := pl_0 i
    rw [pl]
    split
    · show ps2 (ps1 (pl V i).1 i) i 0 = V 0 + 1
      unfold ps2 ps1
      rw [pk_un (by omega), pk_un (by omega), pk_un (by omega)]
      exact ih
    · show ps1 (pl V i).1 i 0 = V 0 + 1
      unfold ps1
      rw [pk_un (by omega)]
      exact ih
theorem pl_ge {j : Nat} : ∀ i, i ≤ j → (pl V i).1 (24 + 5 * j) = V (24 + 5 * j) ∧ (pl V i).1 (25 + 5 * j) = V (25 + 5 * j)
  | 0, _ => by
    show upd V 0 (V 0 + 1) (24 + 5 * j) = _ ∧ upd V 0 (V 0 + 1) (25 + 5 * j) = _
    exact ⟨pk_un (by omega), pk_un (by omega)⟩
  | i + 1, hi => by
    have ih := pl_ge (j := j) i (by omega)
    rw [pl]
    split
    · show ps2 (ps1 (pl V i).1 i) i (24 + 5 * j) = _ ∧ ps2 (ps1 (pl V i).1 i) i (25 + 5 * j) = _
      unfold ps2 ps1
      rw [pk_un (by omega), pk_un (by omega), pk_un (by omega), pk_un (by omega), pk_un (by omega), pk_un (by omega)]
      exact ih
    · show ps1 (pl V i).1 i (24 + 5 * j) = _ ∧ ps1 (pl V i).1 i (25 + 5 * j) = _
      unfold ps1
      rw [pk_un (by omega), pk_un (by omega)]
      exact ih
theorem dli_congr {W : Row} {j : Nat} (h24 : W (24 + 5 * j) = V (24 + 5 * j)) (h25 : W (25 + 5 * j) = V (25 + 5 * j)) (hl : ∀ k, k < 6 → W (10 + 2 * k) = V (10 + 2 * k)) (hk : kd V j < 6) : dli W j = dli V j := by
  have e : kd W j = kd V j := by unfold kd; rw [h24]
  unfold dli
  rw [e, h25, hl _ hk]
def tdl (V : Row) (i : Nat) : Int32 := V (10 + 2 * kd V i) - (V (25 + 5 * i) + 1)
theorem ps_dli (hV : WF V) {i : Nat} (hi : i < nT V) : dli (ps1 (pl V i).1 i) i = tdl V i := by
  have hk := kd_lt hV hi
  obtain ⟨e1, e2⟩ := pl_ge (V := V) i (Nat.le_refl i)
  have ek : kd (ps1 (pl V i).1 i) i = kd V i := by
    unfold kd ps1
    rw [pk_un (by omega), e1]
  unfold dli tdl
  rw [ek]
  unfold ps1
  rw [pk_us, pk_un (by omega), pl_keep (by omega) (fun j => by omega), e2]
theorem dl_iff {W : Row} {j : Nat} : dl W j = 0 ↔ ¬ 0 < dli W j := ⟨dl_z2, dl_0⟩
theorem pl_cnt (hV : WF V) : ∀ i, i ≤ nT V → (pl V i).2 = sumF (fun j => ind (¬ 0 < tdl V j)) i
  | 0, _ => rfl
  | i + 1, hi => by
    have ih := pl_cnt hV i (by omega)
    have hd := ps_dli hV (i := i) (by omega)
    rw [pl]
    split
    · rename_i h
      rw [dl_iff, hd] at h
      show (pl V i).2 + 1 = sumF _ i + ind (¬ 0 < tdl V i)
      rw [ih, ind_T h]
    · rename_i h
      rw [dl_iff, hd] at h
      show (pl V i).2 = sumF _ i + ind (¬ 0 < tdl V i)
      rw [ih, ind_F h]
      exact (Int32.add_zero _).symm
theorem pl_fresh (hV : WF V) : ∀ i, i ≤ nT V → ∀ j, j < i → kd (pl V i).1 j < 6 ∧ 0 < dli (pl V i).1 j
  | 0, _, j, hj => absurd hj (by omega)
  | i + 1, hi, j, hj => by
    have hlife : ∀ k, k < 6 → (pl V i).1 (10 + 2 * k) = V (10 + 2 * k) := fun k hk => pl_keep (by omega) (fun j => by omega) i
    by_cases hji : j = i
    · subst hji
      rw [pl]
      split
      · have e22 : (pl V j).1 (22 + 5 * j) = V (22 + 5 * j) := pl_keep (by omega) (fun a => by omega) j
        have hmk := (hV.2.1 j (by omega)).1
        have ek : kd (ps2 (ps1 (pl V j).1 j) j) j = (V (22 + 5 * j)).toNatClampNeg := by
          unfold kd ps2 ps1
          rw [pk_un (by omega), pk_us, pk_un (by omega), e22]
        have hk6 : (V (22 + 5 * j)).toNatClampNeg < 6 := vpin_lt hmk
        refine ⟨by show kd (ps2 (ps1 (pl V j).1 j) j) j < 6; rw [ek]; exact hk6, ?_⟩
        show 0 < dli (ps2 (ps1 (pl V j).1 j) j) j
        unfold dli
        rw [ek]
        unfold ps2 ps1
        rw [pk_us, pk_un (by omega), pk_un (by omega), pk_un (by omega), hlife _ hk6, Int32.sub_zero]
        exact (hV.2.2.1 _ hk6).2
      · rename_i h
        rw [dl_iff, Classical.not_not] at h
        refine ⟨?_, h⟩
        show kd (ps1 (pl V j).1 j) j < 6
        unfold kd ps1
        rw [pk_un (by omega), (pl_ge (V := V) j (Nat.le_refl _)).1]
        exact kd_lt hV (by omega)
    · obtain ⟨k1, k2⟩ := pl_fresh hV i (by omega) j (by omega)
      rw [pl]
      split
      · have h24 : ps2 (ps1 (pl V i).1 i) i (24 + 5 * j) = (pl V i).1 (24 + 5 * j) := by
          unfold ps2 ps1
          rw [pk_un (by omega), pk_un (by omega), pk_un (by omega)]
        have h25 : ps2 (ps1 (pl V i).1 i) i (25 + 5 * j) = (pl V i).1 (25 + 5 * j) := by
          unfold ps2 ps1
          rw [pk_un (by omega), pk_un (by omega), pk_un (by omega)]
        refine ⟨by show kd (ps2 (ps1 (pl V i).1 i) i) j < 6; unfold kd; rw [h24]; exact k1, ?_⟩
        show 0 < dli (ps2 (ps1 (pl V i).1 i) i) j
        rw [dli_congr h24 h25 (fun k hk => by unfold ps2 ps1; rw [pk_un (by omega), pk_un (by omega), pk_un (by omega)]) k1]
        exact k2
      · have h24 : ps1 (pl V i).1 i (24 + 5 * j) = (pl V i).1 (24 + 5 * j) := by
          unfold ps1
          rw [pk_un (by omega)]
        have h25 : ps1 (pl V i).1 i (25 + 5 * j) = (pl V i).1 (25 + 5 * j) := by
          unfold ps1
          rw [pk_un (by omega)]
        refine ⟨by show kd (ps1 (pl V i).1 i) j < 6; unfold kd; rw [h24]; exact k1, ?_⟩
        show 0 < dli (ps1 (pl V i).1 i) j
        rw [dli_congr h24 h25 (fun k hk => by unfold ps1; rw [pk_un (by omega)]) k1]
        exact k2
theorem pass_hi {y : Nat} (h : 10 ≤ y) : passV V y = (pl V (nT V)).1 y := by
  unfold passV
  rw [pd43 (by omega) (by omega)]
  unfold pd2 pd1
  rw [pk_un (by omega), pk_un (by omega)]
theorem sum_zero {f : Nat → Int32} : ∀ n, (∀ j, j < n → f j = 0) → sumF f n = 0
  | 0, _ => rfl
  | n + 1, h => by rw [sumF, sum_zero n (fun j hj => h j (by omega)), h n (by omega)]; rfl
theorem pass_spoilt (hV : WF V) : spoiltV (passV V) = 0 := by
  unfold spoiltV
  rw [nT_pass]
  refine sum_zero _ (fun j hj => ?_)
  obtain ⟨k1, k2⟩ := pl_fresh hV (nT V) (Nat.le_refl _) j hj
  have e : dli (passV V) j = dli (pl V (nT V)).1 j := dli_congr (pass_hi (by omega)) (pass_hi (by omega)) (fun k _ => pass_hi (by omega)) k1
  rw [e]
  exact ind_F (fun q => q k2)
theorem pass_0 : passV V 0 = V 0 + 1 := by
  unfold passV
  rw [pd43 (by omega) (by omega)]
  unfold pd2 pd1
  rw [pk_un (by omega), pk_un (by omega), pl_0]
theorem pass_3 : passV V 3 = V 3 + thrV V := by
  unfold passV
  rw [pd43 (by omega) (by omega)]
  unfold pd2 pd1
  rw [pk_un (by omega), pk_us, pl_3]
  rfl
theorem pass_4 : passV V 4 = V 4 + thrV V := by
  unfold passV
  rw [pd43 (by omega) (by omega)]
  unfold pd2 pd1
  rw [pk_us, pk_un (by omega), pl_keep (by omega) (fun i => by omega)]
  rfl
theorem pass_8 : passV V 8 = lotx (V 8) := by
  unfold passV pd4 pd3 pd2 pd1
  rw [pk_un (by omega), pk_us, pk_un (by omega), pk_un (by omega), pl_keep (by omega) (fun i => by omega)]
theorem pass_9 : passV V 9 = if rem32 (lotx (V 8)) (V 1 + 1) < V 1 then rem32 (lotx (V 8)) (V 1 + 1) else -4 := by
  have e1 : pd3 (pd2 (pd1 (pl V (nT V)).1 (pl V (nT V)).2) (pl V (nT V)).2) 1 = V 1 := by
    unfold pd3 pd2 pd1
    rw [pk_un (by omega), pk_un (by omega), pk_un (by omega), pl_keep (by omega) (fun i => by omega)]
  have e8 : pd3 (pd2 (pd1 (pl V (nT V)).1 (pl V (nT V)).2) (pl V (nT V)).2) 8 = lotx (V 8) := by
    unfold pd3 pd2 pd1
    rw [pk_us, pk_un (by omega), pk_un (by omega), pl_keep (by omega) (fun i => by omega)]
  unfold passV
  unfold pd4
  rw [pk_us, e1, e8]
theorem pass_9n (hV : WF V) : ∃ a, a ≤ nT V ∧ rem32 (lotx (V 8)) (nI (nT V) + 1) = nI a ∧ passV V 9 = if a = nT V then -4 else nI a := by
  obtain ⟨h7, h1⟩ := WF_n hV
  obtain ⟨l, hl, hle⟩ := vp_in_of hV.2.2.2.2.1 (by decide)
  have e : rem32 (lotx (V 8)) (nI (nT V) + 1) = nI ((421 * l + 1663) % 10000 % (nT V + 1)) := by
    rw [hle, lot_nI hl, nI_1]
    exact rem_nI (Nat.lt_trans (Nat.mod_lt _ (by decide)) (by decide)) (by omega) (by omega)
  have hle2 : (421 * l + 1663) % 10000 % (nT V + 1) ≤ nT V := by
    have := Nat.mod_lt ((421 * l + 1663) % 10000) (show 0 < nT V + 1 by omega)
    omega
  refine ⟨_, hle2, e, ?_⟩
  rw [pass_9, h1, e]
  generalize (421 * l + 1663) % 10000 % (nT V + 1) = a at *
  by_cases ha : a = nT V
  · rw [if_pos ha, if_neg (nI_nlt (by omega) (by omega))]
  · rw [if_neg ha, if_pos (nI_lt (by omega) (by omega))]
theorem thr_eq (hV : WF V) : thrV V = nI (cnB (fun j => decide (¬ 0 < tdl V j)) (nT V)) := by
  unfold thrV
  rw [pl_cnt hV _ (Nat.le_refl _), sum_ind]
theorem thr_ge (hG : Good V) : ¬ thrV V < spoiltV V := by
  have h7 := (WF_n hG.1).1
  rw [thr_eq hG.1]
  unfold spoiltV
  rw [sum_ind]
  have h1 := cnB_le (f := fun j => decide (¬ 0 < tdl V j)) (nT V)
  refine nI_nlt (cnB_mono (nT V) (fun j hj h => decide_eq_true ?_)) (by omega)
  have h2 := of_decide_eq_true h
  intro q
  apply h2
  obtain ⟨l, hl, hle⟩ := vp_in_of (hG.1.2.2.1 _ (kd_lt hG.1 hj)).1 (by decide)
  obtain ⟨a, ha, hae⟩ := vp_in_of (hG.2 j hj) (by decide)
  unfold tdl at q
  unfold dli
  rw [hle, hae] at q ⊢
  rw [nI_1] at q
  have q1 := (nI_ltI (by omega) (by omega)).mp ((snd_ab (by omega) (by omega)).mpr q)
  exact (snd_ab (by omega) (by omega)).mp (nI_lt (by omega) (by omega))
theorem thr_pos (hV : WF V) : 0 ≤ thrV V := by
  have h7 := (WF_n hV).1
  have h1 := cnB_le (f := fun j => decide (¬ 0 < tdl V j)) (nT V)
  rw [thr_eq hV]
  exact nI_pos' (by omega)
theorem MB_pass {c : Nat} (hB : MB V c) : MB (passV V) c := by
  intro j hj
  rw [nT_pass] at hj
  rw [pass_hi (by omega), pl_keep (by omega) (fun i => by omega)]
  exact hB j hj
theorem mst_pos {L : Nat} (hV : WF V) : 0 ≤ mstV V L := by
  have := bcn_le (V := V) (L := L)
  have := (WF_n hV).1
  rw [mst_eq]
  exact nI_pos' (by omega)
end DY
