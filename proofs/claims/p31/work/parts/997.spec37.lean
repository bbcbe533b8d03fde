/-! while objects are made: N cells stand, a slot of a reference holds 0 until it is set -/
def mkP (f : Nat → Int32) : Nat → List (Option Nat) → List Value
  | _, [] => []
  | i, none :: L => .int (f i) :: mkP f (i + 1) L
  | i, some r :: L => (if f i = 0 then .null else .ref r) :: mkP f (i + 1) L
def cellP (s : Sh) (f : Nat → Int32) : AC := match s with
  | .inl (ci, L) => .inl (ci, mkP f 0 L)
  | .inr (.inl (t, n)) => .inr (.inl (t, (List.range n).map f))
  | .inr (.inr rs) => .inr (.inr (rs.mapIdx (fun i o => if f i = 0 then none else o)))
def embP (N : Nat) (M : Mem) : List AC := (List.range N).map (fun k => cellP (SH k) (M k))
def rf (s : Sh) (j : Nat) : Option Nat := match s with
  | .inl (_, L) => L.getD j none
  | .inr (.inl _) => none
  | .inr (.inr rs) => rs.getD j none
def Zi (N : Nat) (M : Mem) : Prop := N ≤ NC ∧ (∀ k, N ≤ k → ∀ j, M k j = 0) ∧ ∀ k, k < N → ∀ j r, rf (SH k) j = some r → M k j ≠ 0 → r < N
theorem embP_len {N : Nat} {M : Mem} : (embP N M).length = N := by simp [embP]
theorem embP_get {N k : Nat} {M : Mem} (h : k < N) : (embP N M)[k]? = some (cellP (SH k) (M k)) := by simp [embP, h]
theorem embP_set {N a : Nat} {M M' : Mem} {c : AC} (hne : ∀ k, k ≠ a → M' k = M k) (hc : cellP (SH a) (M' a) = c) : (embP N M).set a c = embP N M' := by
  apply List.ext_getElem?
  intro k
  rw [List.getElem?_set]
  by_cases hk : a = k
  · subst hk
    by_cases hl : a < N
    · simp [embP, hl, hc]
    · simp [embP, hl]
  · by_cases hl : k < N
    · simp [embP, hk, hl, hne k (Ne.symm hk)]
    · simp [embP, hk, hl]
theorem embP_push {N : Nat} {M : Mem} : embP (N + 1) M = embP N M ++ [cellP (SH N) (M N)] := by simp [embP, List.range_succ]
theorem mkP_len (f : Nat → Int32) : ∀ (L : List (Option Nat)) (i : Nat), (mkP f i L).length = L.length
  | [], _ => rfl
  | none :: L, i => by simp [mkP, mkP_len f L]
  | some r :: L, i => by simp [mkP, mkP_len f L]
theorem mkP_get (f : Nat → Int32) : ∀ (L : List (Option Nat)) (i j : Nat), (mkP f i L)[j]? = (L[j]?).map (fun o => match o with | none => .int (f (i + j)) | some r => if f (i + j) = 0 then .null else .ref r)
  | [], _, _ => by simp [mkP]
  | none :: L, i, 0 => by simp [mkP]
  | some r :: L, i, 0 => by simp [mkP]
  | none :: L, i, j + 1 => by
    simp only [mkP, List.getElem?_cons_succ]
    rw [mkP_get f L (i + 1) j, show i + 1 + j = i + (j + 1) by omega]
  | some r :: L, i, j + 1 => by
    simp only [mkP, List.getElem?_cons_succ]
    rw [mkP_get f L (i + 1) j, show i + 1 + j = i + (j + 1) by omega]
theorem mkP_set {f : Nat → Int32} {x : Int32} {v : Value} {L : List (Option Nat)} {j : Nat} (h : (L[j]? = some none ∧ v = .int x) ∨ ∃ r, L[j]? = some (some r) ∧ x ≠ 0 ∧ v = .ref r) : (mkP f 0 L).set j v = mkP (upd f j x) 0 L := by
  apply List.ext_getElem?
  intro k
  rw [List.getElem?_set, mkP_get, mkP_get, mkP_len]
  by_cases hk : j = k
  · subst hk
    rcases h with ⟨h, rfl⟩ | ⟨r, h, hx, rfl⟩
    · rw [if_pos rfl, if_pos (List.getElem?_eq_some_iff.mp h).1, h]
      simp [upd]
    · rw [if_pos rfl, if_pos (List.getElem?_eq_some_iff.mp h).1, h]
      simp [upd, hx]
  · rw [if_neg hk]
    simp [upd, Ne.symm hk]
theorem okH_P {N : Nat} {M : Mem} (hz : Zi N M) : okH (embP N M) = true := by
  unfold okH
  rw [embP_len]
  apply List.all_eq_true.mpr
  intro c hc
  obtain ⟨k, hk, rfl⟩ := List.mem_map.mp hc
  have hkN : k < N := List.mem_range.mp hk
  have h3 := hz.2.2 k hkN
  cases hs : SH k with
  | inl p =>
    obtain ⟨ci, L⟩ := p
    rw [hs] at h3
    show (mkP (M k) 0 L).all (okv N) = true
    apply List.all_eq_true.mpr
    intro v hv
    obtain ⟨j, hj⟩ := List.getElem?_of_mem hv
    rw [mkP_get, Nat.zero_add] at hj
    cases hL : L[j]? with
    | none => rw [hL] at hj; cases hj
    | some o =>
      rw [hL] at hj
      cases o with
      | none => cases hj; rfl
      | some r =>
        have hj : some (if M k j = 0 then Value.null else Value.ref r) = some v := hj
        by_cases h0 : M k j = 0
        · rw [if_pos h0] at hj; cases hj; rfl
        · rw [if_neg h0] at hj
          cases hj
          have := h3 j r (by show L.getD j none = some r; rw [List.getD_eq_getElem?_getD, hL]; rfl) h0
          simp [okv, this]
  | inr p =>
    cases p with
    | inl p => rfl
    | inr rs =>
      rw [hs] at h3
      show (rs.mapIdx (fun i o => if M k i = 0 then none else o)).all (fun o => match o with | some k => decide (k < N) | none => true) = true
      apply List.all_eq_true.mpr
      intro v hv
      obtain ⟨j, hj⟩ := List.getElem?_of_mem hv
      rw [List.getElem?_mapIdx] at hj
      cases hL : rs[j]? with
      | none => rw [hL] at hj; cases hj
      | some o =>
        rw [hL] at hj
        have hj : some (if M k j = 0 then none else o) = some v := hj
        by_cases h0 : M k j = 0
        · rw [if_pos h0] at hj; cases hj; rfl
        · rw [if_neg h0] at hj
          cases hj
          cases v with
          | none => rfl
          | some r =>
            have := h3 j r (by show rs.getD j none = some r; rw [List.getD_eq_getElem?_getD, hL]; rfl) h0
            simp [this]
theorem okS_P {N : Nat} {M : Mem} {ls : List (Option Value)} {st : List Value} (hz : Zi N M) (hl : okL N ls = true) (hst : st.all (okv N) = true) : okS (embP N M) ls st = true := by
  have h1 : N ≠ scrId := by
    have := hz.1
    unfold NC at this
    unfold scrId
    omega
  unfold okS
  rw [okH_P hz, embP_len, hl, hst]
  simp [h1]
theorem Zi_put {N a i : Nat} {M : Mem} {x : Int32} (hz : Zi N M) (ha : a < N) (hi : ∀ r, rf (SH a) i = some r → r < N) : Zi N (updM M a i x) := by
  refine ⟨hz.1, fun k hk j => by rw [updM_ne (by omega)]; exact hz.2.1 k hk j, fun k hk j r hr hne => ?_⟩
  by_cases h : k = a ∧ j = i
  · obtain ⟨rfl, rfl⟩ := h
    exact hi r hr
  · rw [updM_at, if_neg h] at hne
    exact hz.2.2 k hk j r hr hne
theorem Zi_row {N a : Nat} {M : Mem} {V : Row} (hz : Zi N M) (ha : a < N) (hi : ∀ j, rf (SH a) j = none) : Zi N (setR M a V) := by
  refine ⟨hz.1, fun k hk j => by rw [row_ne (by omega)]; exact hz.2.1 k hk j, fun k hk j r hr hne => ?_⟩
  by_cases h : k = a
  · subst h
    rw [hi j] at hr
    cases hr
  · rw [row_ne h] at hne
    exact hz.2.2 k hk j r hr hne
theorem Zi_new {N : Nat} {M : Mem} (hz : Zi N M) (hN : N < NC) : Zi (N + 1) M := by
  refine ⟨hN, fun k hk j => hz.2.1 k (by omega) j, fun k hk j r hr hne => ?_⟩
  by_cases h : k = N
  · subst h
    exact absurd (hz.2.1 k (Nat.le_refl _) j) hne
  · have := hz.2.2 k (by omega) j r hr hne
    omega
theorem Zi_0 {N : Nat} {M : Mem} (hz : Zi N M) : M N = fun _ => 0 := funext (fun j => hz.2.1 N (Nat.le_refl _) j)
section PR
variable {sc : cS} {d h : Nat} {μ μ' : Md} {pc N : Nat} {ls : List (Option Value)} {st as : List Value} {M M1 : Mem} {r r1 : Option Value} {AH' : List AC}
theorem p_scr {o : Nat} (hz : Zi N M) (ho : o < N) : o ≠ scrId := by
  have := hz.1
  unfold NC at this
  unfold scrId
  omega
theorem p_new {idx ci : Nat} {q : vw_C} {L : List (Option Nat)} (hz : Zi N M) (hN : N < NC) (hs : SH N = .inl (ci, L)) (hdf : dfl ci q.2.2 = mkP (fun _ => 0) 0 L) (hd : decode μ.1 pc = .ok (.new idx, 3)) (hq : vwCl[ci]? = some q) (hw1 : Cond.classLink μ.2.1.cls idx q.1 ∈ WA) (hw2 : Cond.instantiable q.1 q.2.2 ∈ WA) (hw3 : Cond.initialized q.1 ∈ WA) (hl : okL N ls = true) (hst : st.all (okv N) = true) (k : Zi (N + 1) M → X sc d μ (pc + 3) ls (.ref N :: st) (embP (N + 1) M) r AH') : X sc d μ pc ls st (embP N M) r AH' := by
  refine x_new hd hq hw1 hw2 hw3 (okS_P hz hl hst) ?_
  have k := k (Zi_new hz hN)
  rw [embP_push, hs, Zi_0 hz] at k
  rw [embP_len, hdf]
  exact k
theorem p_newarr {atype : ArrayType} {n : Int32} {m : Nat} (t : Nat) (hz : Zi N M) (hN : N < NC) (hs : SH N = .inr (.inl (t, m))) (hm : n.toNatClampNeg = m) (ht : t < 3) (hat : newarray.typeOf atype = tyN t) (hdv : defaultValue (tyN t) = .int 0) (hw : Cond.arrayClass (newarray.typeOf atype) ∈ WA) (hd : decode μ.1 pc = .ok (.newarray atype, 2)) (hn : ¬ n < 0) (hN2 : m ≤ 1000) (hcb : componentBytes (newarray.typeOf atype) ≤ 8) (hl : okL N ls = true) (hst : st.all (okv N) = true) (k : Zi (N + 1) M → X sc d μ (pc + 2) ls (.ref N :: st) (embP (N + 1) M) r AH') : X sc d μ pc ls (.int n :: st) (embP N M) r AH' := by
  refine x_newarray t ht hat hdv hw hd hn (by rw [hm]; exact hN2) hcb (okS_P hz hl hst) ?_
  have k := k (Zi_new hz hN)
  rw [embP_push, hs, Zi_0 hz] at k
  have e : cellP (.inr (.inl (t, m))) (fun _ => 0) = .inr (.inl (t, List.replicate m 0)) := by
    show (Sum.inr (Sum.inl (t, (List.range m).map (fun _ => (0 : Int32)))) : AC) = _
    rw [List.map_const', List.length_range]
  rw [e] at k
  rw [embP_len, hm]
  exact k
theorem p_anew {idx : Nat} {n : Int32} {rs : List (Option Nat)} (hz : Zi N M) (hN : N < NC) (hs : SH N = .inr (.inr rs)) (hm : List.replicate n.toNatClampNeg none = rs.mapIdx (fun _ _ => (none : Option Nat))) (hd : decode μ.1 pc = .ok (.anewarray idx, 3)) (hw : Cond.classLink μ.2.1.cls idx "BarterRings$Market" ∈ WA) (hn : ¬ n < 0) (hN2 : n.toNatClampNeg ≤ 1000) (hl : okL N ls = true) (hst : st.all (okv N) = true) (k : Zi (N + 1) M → X sc d μ (pc + 3) ls (.ref N :: st) (embP (N + 1) M) r AH') : X sc d μ pc ls (.int n :: st) (embP N M) r AH' := by
  refine x_anewarray hd hw hn hN2 (okS_P hz hl hst) ?_
  have k := k (Zi_new hz hN)
  rw [embP_push, hs, Zi_0 hz] at k
  have e : cellP (.inr (.inr rs)) (fun _ => 0) = .inr (.inr (rs.mapIdx (fun _ _ => (none : Option Nat)))) := by
    simp [cellP]
  rw [e] at k
  rw [embP_len, hm]
  exact k
theorem p_putI {idx ci j o : Nat} {q : vw_C} {L : List (Option Nat)} {x : Int32} (hz : Zi N M) (hl : LkF μ.2.1.cls idx ci j q) (hd : decode μ.1 pc = .ok (.putfield idx, 3)) (ho : o < N) (hs : SH o = .inl (ci, L)) (hv : L[j]? = some none) (hfin : (q.2.1 j).2.2.2 = false) (h1 : narrow (cty ci j) (.int x) = .int x) (h2 : fits (cty ci j) (.int x) = true) (k : Zi N (updM M o j x) → X sc d μ (pc + 3) ls st (embP N (updM M o j x)) r AH') : X sc d μ pc ls (.int x :: .ref o :: st) (embP N M) r AH' := by
  refine x_putI hl hd (p_scr hz ho) (by rw [embP_get ho, hs]; rfl) (by rw [mkP_len]; exact (List.getElem?_eq_some_iff.mp hv).1) hfin h1 h2 ?_
  have hr : rf (SH o) j = none := by rw [hs]; show L.getD j none = none; rw [List.getD_eq_getElem?_getD, hv]; rfl
  have k := k (Zi_put hz ho (fun r h => by rw [hr] at h; cases h))
  rw [embP_set (a := o) (M' := updM M o j x) (c := .inl (ci, (mkP (M o) 0 L).set j (.int x))) (fun k hk => updM_ne hk) (by rw [hs, updM_eq, mkP_set (Or.inl ⟨hv, rfl⟩)]; rfl)]
  exact k
theorem p_putR {idx ci j o k0 : Nat} {q : vw_C} {L : List (Option Nat)} (hz : Zi N M) (hl : LkF μ.2.1.cls idx ci j q) (hd : decode μ.1 pc = .ok (.putfield idx, 3)) (ho : o < N) (hs : SH o = .inl (ci, L)) (hv : L[j]? = some (some k0)) (hk0 : k0 < N) (hin : μ.2.1.name = "<init>") (hcl : μ.2.1.cls = q.1) (hfin : (q.2.1 j).2.2.2 = true) (h1 : ∀ a, narrow (cty ci j) (.ref a) = .ref a) (h2 : ∀ a, fits (cty ci j) (.ref a) = true) (k : Zi N (updM M o j 1) → X sc d μ (pc + 3) ls st (embP N (updM M o j 1)) r AH') : X sc d μ pc ls (.ref k0 :: .ref o :: st) (embP N M) r AH' := by
  refine x_putR hl hd (p_scr hz ho) (p_scr hz hk0) hin hcl (by rw [embP_get ho, hs]; rfl) (by rw [mkP_len]; exact (List.getElem?_eq_some_iff.mp hv).1) hfin h1 h2 ?_
  have hr : rf (SH o) j = some k0 := by rw [hs]; show L.getD j none = some k0; rw [List.getD_eq_getElem?_getD, hv]; rfl
  have k := k (Zi_put hz ho (fun r h => by rw [hr] at h; cases h; exact hk0))
  rw [embP_set (a := o) (M' := updM M o j 1) (c := .inl (ci, (mkP (M o) 0 L).set j (.ref k0))) (fun k hk => updM_ne hk) (by rw [hs, updM_eq, mkP_set (x := 1) (Or.inr ⟨k0, hv, by decide, rfl⟩)]; rfl)]
  exact k
theorem p_getR {idx ci j o k0 : Nat} {q : vw_C} {L : List (Option Nat)} (hz : Zi N M) (hl : LkF μ.2.1.cls idx ci j q) (hd : decode μ.1 pc = .ok (.getfield idx, 3)) (ho : o < N) (hs : SH o = .inl (ci, L)) (hv : L[j]? = some (some k0)) (hne : M o j ≠ 0) (k : X sc d μ (pc + 3) ls (.ref k0 :: st) (embP N M) r AH') : X sc d μ pc ls (.ref o :: st) (embP N M) r AH' := by
  refine x_getf hl hd (p_scr hz ho) (by rw [embP_get ho, hs]; rfl) ?_ k
  rw [mkP_get, hv, Nat.zero_add]
  show some (if M o j = 0 then Value.null else Value.ref k0) = _
  rw [if_neg hne]
theorem p_iast {a n j : Nat} {i x : Int32} (hz : Zi N M) (hd : decode μ.1 pc = .ok (.iastore, 1)) (ha : a < N) (hs : SH a = .inr (.inl (0, n))) (hi : i.toNatClampNeg = j ∧ ¬ i < 0) (hj : j < n) (k : Zi N (updM M a j x) → X sc d μ (pc + 1) ls st (embP N (updM M a j x)) r AH') : X sc d μ pc ls (.int x :: .int i :: .ref a :: st) (embP N M) r AH' := by
  refine x_iastore hd (p_scr hz ha) (by rw [embP_get ha, hs]; rfl) (by simpa using vpin_of hi hj) ?_
  have k := k (Zi_put hz ha (fun r h => by rw [hs] at h; cases h))
  rw [rng_set, hi.1, embP_set (a := a) (M' := updM M a j x) (fun k hk => updM_ne hk) (by rw [hs, updM_eq]; rfl)]
  exact k
theorem p_aast {a k0 j : Nat} {i : Int32} {rs L : List (Option Nat)} (hz : Zi N M) (hd : decode μ.1 pc = .ok (.aastore, 1)) (ha : a < N) (hs : SH a = .inr (.inr rs)) (hk0 : k0 < N) (hs0 : SH k0 = .inl (2, L)) (hi : i.toNatClampNeg = j ∧ ¬ i < 0) (hv : rs[j]? = some (some k0)) (k : Zi N (updM M a j 1) → X sc d μ (pc + 1) ls st (embP N (updM M a j 1)) r AH') : X sc d μ pc ls (.ref k0 :: .int i :: .ref a :: st) (embP N M) r AH' := by
  have hj : j < rs.length := (List.getElem?_eq_some_iff.mp hv).1
  refine x_aastore hd (p_scr hz ha) (p_scr hz hk0) (rs := rs.mapIdx (fun i o => if M a i = 0 then none else o)) (by rw [embP_get ha, hs]; rfl) (by rw [embP_get hk0, hs0]; rfl) (by rw [List.length_mapIdx]; exact vpin_of hi hj) ?_
  have hr : rf (SH a) j = some k0 := by rw [hs]; show rs.getD j none = some k0; rw [List.getD_eq_getElem?_getD, hv]; rfl
  have k := k (Zi_put hz ha (fun r h => by rw [hr] at h; cases h; exact hk0))
  rw [embP_set (a := a) (M' := updM M a j 1) (fun k hk => updM_ne hk) ?_]
  · exact k
  rw [hs, updM_eq, hi.1]
  show (Sum.inr (Sum.inr _) : AC) = _
  congr 2
  apply List.ext_getElem?
  intro m
  rw [List.getElem?_set, List.getElem?_mapIdx, List.getElem?_mapIdx, List.length_mapIdx]
  by_cases hm : j = m
  · subst hm
    rw [if_pos rfl, if_pos hj, hv]
    simp [upd]
  · rw [if_neg hm]
    simp [upd, Ne.symm hm]
theorem p_callI {idx n o N1 : Nat} {stk : List Value} (hz : Zi N M) (hm : MdI μ' n) (hw : (Cond.methodLink μ.2.1.cls idx μ'.2.1) ∈ WA) (hd : decode μ.1 pc = .ok (.invokespecial idx, 3)) (hs : stk = as.reverse ++ .ref o :: st) (hX : X none h μ' 0 (lent μ'.2.2.1 (.ref o :: as)) [] (embP N M) r1 (embP N1 M1)) (hh : h + 1 ≤ d) (hn : as.length = n) (hc : ∀ v ∈ as, v.category = 1) (hl : as.length + 1 ≤ μ'.2.2.1) (hno : o < N) (hst : (st.map fun v => v.category).sum ≤ 8) (hol : okL N ls = true) (hos : st.all (okv N) = true) (k : X sc d μ (pc + 3) ls (r1.toList ++ st) (embP N1 M1) r AH') : X sc d μ pc ls stk (embP N M) r AH' :=
  x_callI hm hw hd hs hX hh hn hc hl (p_scr hz hno) hst (Or.inr (okS_P hz hol hos)) k
theorem p_callIN {idx n o N1 : Nat} {stk : List Value} (hz : Zi N M) (hm : MdI μ' n) (hw : (μ.2.1.cls, idx, μ'.2.1) ∈ nests) (hd : decode μ.1 pc = .ok (.invokespecial idx, 3)) (hs : stk = as.reverse ++ .ref o :: st) (hX : X none h μ' 0 (lent μ'.2.2.1 (.ref o :: as)) [] (embP N M) r1 (embP N1 M1)) (hh : h + 1 ≤ d) (hn : as.length = n) (hc : ∀ v ∈ as, v.category = 1) (hl : as.length + 1 ≤ μ'.2.2.1) (hno : o < N) (hst : (st.map fun v => v.category).sum ≤ 8) (hol : okL N ls = true) (hos : st.all (okv N) = true) (k : X sc d μ (pc + 3) ls (r1.toList ++ st) (embP N1 M1) r AH') : X sc d μ pc ls stk (embP N M) r AH' :=
  x_callIN hm hw hd hs hX hh hn hc hl (p_scr hz hno) hst (Or.inr (okS_P hz hol hos)) k
end PR
/-- all references are set: the memory of the calls -/
theorem embP_emb {M : Mem} (h : ∀ k, k < NC → ∀ j r, rf (SH k) j = some r → M k j ≠ 0) : embP NC M = emb M := by
  unfold embP emb
  apply List.map_congr_left
  intro k hk
  have hkN : k < NC := List.mem_range.mp hk
  have h3 := h k hkN
  cases hs : SH k with
  | inl p =>
    obtain ⟨ci, L⟩ := p
    rw [hs] at h3
    show (Sum.inl (ci, mkP (M k) 0 L) : AC) = Sum.inl (ci, mkF (M k) 0 L)
    congr 2
    have : ∀ (L2 : List (Option Nat)) (i : Nat), (∀ j r, L2[j]? = some (some r) → M k (i + j) ≠ 0) → mkP (M k) i L2 = mkF (M k) i L2 := by
      intro L2
      induction L2 with
      | nil => intro i _; rfl
      | cons o L2 ih =>
        intro i h4
        have h5 := ih (i + 1) (fun j r hj => by
          have := h4 (j + 1) r (by rw [List.getElem?_cons_succ]; exact hj)
          rw [show i + 1 + j = i + (j + 1) by omega]
          exact this)
        cases o with
        | none => simp only [mkP, mkF, h5]
        | some r =>
          have h6 := h4 0 r rfl
          rw [Nat.add_zero] at h6
          simp only [mkP, mkF, h5, if_neg h6]
    refine this L 0 (fun j r hj => ?_)
    rw [Nat.zero_add]
    exact h3 j r (by show L.getD j none = some r; rw [List.getD_eq_getElem?_getD, hj]; rfl)
  | inr p =>
    cases p with
    | inl p => rfl
    | inr rs =>
      rw [hs] at h3
      show (Sum.inr (Sum.inr (rs.mapIdx (fun i o => if M k i = 0 then none else o))) : AC) = Sum.inr (Sum.inr rs)
      congr 2
      apply List.ext_getElem?
      intro m
      rw [List.getElem?_mapIdx]
      cases hm : rs[m]? with
      | none => rfl
      | some o =>
        cases o with
        | none => simp
        | some r =>
          have := h3 m r (by show rs.getD m none = some r; rw [List.getD_eq_getElem?_getD, hm]; rfl)
          simp [this]
