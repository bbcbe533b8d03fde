/-! memory of fixed shape: 95 cells, M c j the number at place j of the cell c -/
abbrev Mem : Type := Nat → Nat → Int32
abbrev Sh : Type := (Nat × List (Option Nat)) ⊕ ((Nat × Nat) ⊕ List (Option Nat))
def mkL (o : Nat) : List (Option Nat) := [some (o + 1), some (o + 2), some (o + 3), some (o + 4), some (o + 5), some (o + 6), some (o + 7), none, none, none, none, none, none, none, none, none, some (o + 8), some (o + 9)]
def mkS (o i : Nat) : Sh := match i with
  | 0 => .inl (2, mkL o)
  | 6 => .inr (.inl (0, 6))
  | 7 => .inr (.inl (0, 6))
  | _ => .inr (.inl (0, 7))
def SH (k : Nat) : Sh := match k with
  | 0 => .inl (5, [some 1, some 11, some 21, some 31, some 73, some 75, some 80, none, none, none])
  | 31 => .inl (1, [none, some 32, none])
  | 32 => .inr (.inr [some 33, some 43, some 53, some 63])
  | 73 => .inl (3, [none, some 74])
  | 74 => .inr (.inl (2, 60))
  | 75 => .inl (0, [some 76, some 77, some 78, some 79, none, none])
  | 76 => .inr (.inl (0, 7))
  | 77 => .inr (.inl (0, 128))
  | 78 => .inr (.inl (1, 128))
  | 79 => .inr (.inl (1, 128))
  | 80 => .inl (4, [some 81, some 82, some 83, none, none, none])
  | 81 => .inr (.inl (0, 7))
  | 82 => .inr (.inl (0, 7))
  | 83 => .inr (.inl (0, 7))
  | 84 => .inl (6, [some 85, some 86, some 87, none, some 88, none, some 89, none, none, none, some 90, none, some 91, some 92, some 93, some 94, none])
  | 85 => .inr (.inl (0, 57))
  | 86 => .inr (.inl (0, 57))
  | 87 => .inr (.inl (0, 228))
  | 88 => .inr (.inl (0, 57))
  | 89 => .inr (.inl (0, 60))
  | 90 => .inr (.inl (0, 7))
  | 91 => .inr (.inl (0, 7))
  | 92 => .inr (.inl (0, 8))
  | 93 => .inr (.inl (0, 7))
  | 94 => .inr (.inl (0, 7))
  | n => if n ≤ 30 then mkS (n - (n - 1) % 10) ((n - 1) % 10) else mkS (n - (n - 33) % 10) ((n - 33) % 10)
def mkF (f : Nat → Int32) : Nat → List (Option Nat) → List Value
  | _, [] => []
  | j, some r :: L => .ref r :: mkF f (j + 1) L
  | j, none :: L => .int (f j) :: mkF f (j + 1) L
def cellS (s : Sh) (f : Nat → Int32) : AC := match s with
  | .inl (ci, L) => .inl (ci, mkF f 0 L)
  | .inr (.inl (t, n)) => .inr (.inl (t, (List.range n).map f))
  | .inr (.inr rs) => .inr (.inr rs)
def NC : Nat := 84
def emb (M : Mem) : List AC := (List.range NC).map (fun k => cellS (SH k) (M k))
def updM (M : Mem) (a i : Nat) (x : Int32) : Mem := fun k j => if k = a ∧ j = i then x else M k j
theorem updM_at {M : Mem} {a i k j : Nat} {x : Int32} : updM M a i x k j = if k = a ∧ j = i then x else M k j := rfl
theorem updM_ne {M : Mem} {a i k : Nat} {x : Int32} (h : k ≠ a) : updM M a i x k = M k := by
  funext j
  simp [updM, h]
theorem updM_eq {M : Mem} {a i : Nat} {x : Int32} : updM M a i x a = upd (M a) i x := by
  funext j
  simp [updM, upd]
def cpyM (M : Mem) (a0 a n : Nat) : Mem := fun k j => if k = a ∧ j < n then M a0 j else M k j
theorem cpyM_ne {M : Mem} {a0 a n k : Nat} (h : k ≠ a) : cpyM M a0 a n k = M k := by
  funext j
  simp [cpyM, h]
abbrev Y (d : Nat) (μ : Md) (pc : Nat) (ls : List (Option Value)) (st : List Value) (M : Mem) (r : Option Value) (M' : Mem) : Prop := X none d μ pc ls st (emb M) r (emb M')
theorem emb_len {M : Mem} : (emb M).length = NC := by simp [emb]
theorem emb_get {M : Mem} {k : Nat} (h : k < NC) : (emb M)[k]? = some (cellS (SH k) (M k)) := by simp [emb, h]
theorem emb_obj {M : Mem} {k ci : Nat} {L : List (Option Nat)} (h : k < NC) (hs : SH k = .inl (ci, L)) : (emb M)[k]? = some (.inl (ci, mkF (M k) 0 L)) := by rw [emb_get h, hs]; rfl
theorem emb_arr {M : Mem} {k t n : Nat} (h : k < NC) (hs : SH k = .inr (.inl (t, n))) : (emb M)[k]? = some (.inr (.inl (t, (List.range n).map (M k)))) := by rw [emb_get h, hs]; rfl
theorem emb_set {M M' : Mem} {a : Nat} {c : AC} (hne : ∀ k, k ≠ a → M' k = M k) (hc : cellS (SH a) (M' a) = c) : (emb M).set a c = emb M' := by
  subst hc
  apply List.ext_getElem?
  intro k
  rw [List.getElem?_set]
  by_cases hk : a = k
  · subst hk
    by_cases hl : a < NC
    · simp [emb, hl]
    · simp [emb, hl]
  · rw [if_neg hk]
    simp only [emb, List.getElem?_map]
    cases hq : (List.range NC)[k]? with
    | none => rfl
    | some j =>
      have hj : j = k := by
        have := (List.getElem?_eq_some_iff.mp hq).2
        simpa using this.symm
      subst hj
      simp [hne j (Ne.symm hk)]
theorem nscr {o : Nat} (h : o < NC) : o ≠ scrId := by
  have h1 : o < 84 := h
  have h2 : scrId = 4294967296 := rfl
  omega
theorem mkF_len (f : Nat → Int32) : ∀ (L : List (Option Nat)) (j : Nat), (mkF f j L).length = L.length
  | [], _ => rfl
  | some _ :: L, j => by simp [mkF, mkF_len f L]
  | none :: L, j => by simp [mkF, mkF_len f L]
theorem mkF_int (f : Nat → Int32) : ∀ (L : List (Option Nat)) (i j : Nat), L[j]? = some none → (mkF f i L)[j]? = some (.int (f (i + j)))
  | [], _, _, h => by simp at h
  | some r :: L, i, 0, h => by simp at h
  | none :: L, i, 0, h => by simp [mkF]
  | some r :: L, i, j + 1, h => by
    simp only [List.getElem?_cons_succ] at h
    simp only [mkF, List.getElem?_cons_succ]
    rw [mkF_int f L (i + 1) j h]
    congr 3
    omega
  | none :: L, i, j + 1, h => by
    simp only [List.getElem?_cons_succ] at h
    simp only [mkF, List.getElem?_cons_succ]
    rw [mkF_int f L (i + 1) j h]
    congr 3
    omega
theorem mkF_ref (f : Nat → Int32) : ∀ (L : List (Option Nat)) (i j r : Nat), L[j]? = some (some r) → (mkF f i L)[j]? = some (.ref r)
  | [], _, _, _, h => by simp at h
  | some r :: L, i, 0, _, h => by simp at h; simp [mkF, h]
  | none :: L, i, 0, _, h => by simp at h
  | some r :: L, i, j + 1, _, h => by
    simp only [List.getElem?_cons_succ] at h
    simp only [mkF, List.getElem?_cons_succ]
    exact mkF_ref f L (i + 1) j _ h
  | none :: L, i, j + 1, _, h => by
    simp only [List.getElem?_cons_succ] at h
    simp only [mkF, List.getElem?_cons_succ]
    exact mkF_ref f L (i + 1) j _ h
theorem mkF_congr (f g : Nat → Int32) : ∀ (L : List (Option Nat)) (i : Nat), (∀ j, i ≤ j → f j = g j) → mkF f i L = mkF g i L
  | [], _, _ => rfl
  | some r :: L, i, h => by simp [mkF, mkF_congr f g L (i + 1) (fun j hj => h j (by omega))]
  | none :: L, i, h => by simp [mkF, h i (Nat.le_refl i), mkF_congr f g L (i + 1) (fun j hj => h j (by omega))]
theorem mkF_set (f : Nat → Int32) (x : Int32) : ∀ (L : List (Option Nat)) (i j : Nat), L[j]? = some none → (mkF f i L).set j (.int x) = mkF (upd f (i + j) x) i L
  | [], _, _, h => by simp at h
  | some r :: L, i, 0, h => by simp at h
  | none :: L, i, 0, h => by
    simp only [mkF, List.set_cons_zero, Nat.add_zero]
    rw [mkF_congr (upd f i x) f L (i + 1) (fun j hj => by simp [upd]; omega)]
    simp [upd]
  | some r :: L, i, j + 1, h => by
    simp only [List.getElem?_cons_succ] at h
    simp only [mkF, List.set_cons_succ, mkF_set f x L (i + 1) j h]
    congr 2
    rw [show i + 1 + j = i + (j + 1) by omega]
  | none :: L, i, j + 1, h => by
    simp only [List.getElem?_cons_succ] at h
    simp only [mkF, List.set_cons_succ, mkF_set f x L (i + 1) j h]
    rw [show i + 1 + j = i + (j + 1) by omega]
    congr 2
    simp [upd]
theorem rng_get {f : Nat → Int32} {n i : Nat} (h : i < n) : ((List.range n).map f).getD i 0 = f i := by simp [List.getD_eq_getElem?_getD, h]
theorem rng_set {f : Nat → Int32} {n i : Nat} {x : Int32} : ((List.range n).map f).set i x = (List.range n).map (upd f i x) := by
  apply List.ext_getElem?
  intro k
  rw [List.getElem?_set]
  by_cases hk : i = k
  · subst hk
    by_cases hl : i < n
    · simp [hl, upd]
    · simp [hl]
  · by_cases hl : k < n
    · simp [hk, hl, upd, Ne.symm hk]
    · simp [hk, hl]
section YR
variable {d h : Nat} {μ μ' : Md} {pc : Nat} {ls : List (Option Value)} {st as : List Value} {M M1 M' : Mem} {r r1 : Option Value}
theorem y_getI {idx ci j o : Nat} {q : vw_C} {L : List (Option Nat)} (hl : LkF μ.2.1.cls idx ci j q) (hd : decode μ.1 pc = .ok (.getfield idx, 3)) (ho : o < NC) (hs : SH o = .inl (ci, L)) (hv : L[j]? = some none) (k : Y d μ (pc + 3) ls (.int (M o j) :: st) M r M') : Y d μ pc ls (.ref o :: st) M r M' :=
  x_getf hl hd (nscr ho) (emb_obj ho hs) (by rw [mkF_int _ _ _ _ hv, Nat.zero_add]) k
theorem y_getR {idx ci j o o' : Nat} {q : vw_C} {L : List (Option Nat)} (hl : LkF μ.2.1.cls idx ci j q) (hd : decode μ.1 pc = .ok (.getfield idx, 3)) (ho : o < NC) (hs : SH o = .inl (ci, L)) (hv : L[j]? = some (some o')) (k : Y d μ (pc + 3) ls (.ref o' :: st) M r M') : Y d μ pc ls (.ref o :: st) M r M' :=
  x_getf hl hd (nscr ho) (emb_obj ho hs) (mkF_ref _ _ _ _ _ hv) k
theorem y_putI {idx ci j o : Nat} {q : vw_C} {L : List (Option Nat)} {x : Int32} (hl : LkF μ.2.1.cls idx ci j q) (hd : decode μ.1 pc = .ok (.putfield idx, 3)) (ho : o < NC) (hs : SH o = .inl (ci, L)) (hv : L[j]? = some none) (hfin : (q.2.1 j).2.2.2 = false) (h1 : narrow (cty ci j) (.int x) = .int x) (h2 : fits (cty ci j) (.int x) = true) (k : Y d μ (pc + 3) ls st (updM M o j x) r M') : Y d μ pc ls (.int x :: .ref o :: st) M r M' := by
  refine x_putI hl hd (nscr ho) (emb_obj ho hs) (by rw [mkF_len]; exact (List.getElem?_eq_some_iff.mp hv).1) hfin h1 h2 ?_
  rw [mkF_set _ _ _ _ _ hv, Nat.zero_add, emb_set (M' := updM M o j x) (fun k hk => updM_ne hk) (by rw [hs, updM_eq]; rfl)]
  exact k
theorem y_iald {a n : Nat} {i : Int32} (hd : decode μ.1 pc = .ok (.iaload, 1)) (ha : a < NC) (hs : SH a = .inr (.inl (0, n))) (hi : vp_in i n) (k : Y d μ (pc + 1) ls (.int (M a i.toNatClampNeg) :: st) M r M') : Y d μ pc ls (.int i :: .ref a :: st) M r M' :=
  x_iaload hd (nscr ha) (emb_arr ha hs) (by simpa using hi) (by rw [rng_get (vp_in_lt hi)]; exact k)
theorem y_bald {a n : Nat} {i : Int32} (hd : decode μ.1 pc = .ok (.baload, 1)) (ha : a < NC) (hs : SH a = .inr (.inl (1, n))) (hi : vp_in i n) (k : Y d μ (pc + 1) ls (.int (M a i.toNatClampNeg) :: st) M r M') : Y d μ pc ls (.int i :: .ref a :: st) M r M' :=
  x_baload hd (nscr ha) (emb_arr ha hs) (by simpa using hi) (by rw [rng_get (vp_in_lt hi)]; exact k)
theorem y_cald {a n : Nat} {i : Int32} (hd : decode μ.1 pc = .ok (.caload, 1)) (ha : a < NC) (hs : SH a = .inr (.inl (2, n))) (hi : vp_in i n) (k : Y d μ (pc + 1) ls (.int (M a i.toNatClampNeg) :: st) M r M') : Y d μ pc ls (.int i :: .ref a :: st) M r M' :=
  x_caload hd (nscr ha) (emb_arr ha hs) (by simpa using hi) (by rw [rng_get (vp_in_lt hi)]; exact k)
theorem y_iast {a n : Nat} {i x : Int32} (hd : decode μ.1 pc = .ok (.iastore, 1)) (ha : a < NC) (hs : SH a = .inr (.inl (0, n))) (hi : vp_in i n) (k : Y d μ (pc + 1) ls st (updM M a i.toNatClampNeg x) r M') : Y d μ pc ls (.int x :: .int i :: .ref a :: st) M r M' := by
  refine x_iastore hd (nscr ha) (emb_arr ha hs) (by simpa using hi) ?_
  rw [rng_set, emb_set (M' := updM M a i.toNatClampNeg x) (fun k hk => updM_ne hk) (by rw [hs, updM_eq]; rfl)]
  exact k
theorem y_bast {a n : Nat} {i x : Int32} (hd : decode μ.1 pc = .ok (.bastore, 1)) (ha : a < NC) (hs : SH a = .inr (.inl (1, n))) (hi : vp_in i n) (k : Y d μ (pc + 1) ls st (updM M a i.toNatClampNeg (x &&& 1)) r M') : Y d μ pc ls (.int x :: .int i :: .ref a :: st) M r M' := by
  refine x_bastore hd (nscr ha) (emb_arr ha hs) (by simpa using hi) ?_
  rw [show vp_nar .boolean x = x &&& 1 from rfl, rng_set, emb_set (M' := updM M a i.toNatClampNeg (x &&& 1)) (fun k hk => updM_ne hk) (by rw [hs, updM_eq]; rfl)]
  exact k
theorem y_cast {a n : Nat} {i x : Int32} (hd : decode μ.1 pc = .ok (.castore, 1)) (ha : a < NC) (hs : SH a = .inr (.inl (2, n))) (hi : vp_in i n) (k : Y d μ (pc + 1) ls st (updM M a i.toNatClampNeg (vp_nar .char x)) r M') : Y d μ pc ls (.int x :: .int i :: .ref a :: st) M r M' := by
  refine x_castore hd (nscr ha) (emb_arr ha hs) (by simpa using hi) ?_
  rw [rng_set, emb_set (M' := updM M a i.toNatClampNeg (vp_nar .char x)) (fun k hk => updM_ne hk) (by rw [hs, updM_eq]; rfl)]
  exact k
theorem y_alen {a n t : Nat} (ht : t < 3) (hd : decode μ.1 pc = .ok (.arraylength, 1)) (ha : a < NC) (hs : SH a = .inr (.inl (t, n))) (k : Y d μ (pc + 1) ls (.int (nI n) :: st) M r M') : Y d μ pc ls (.ref a :: st) M r M' :=
  x_alen ht hd (nscr ha) (emb_arr ha hs) (by simp only [List.length_map, List.length_range]; exact k)
theorem y_aald {a k0 : Nat} {i : Int32} {rs : List (Option Nat)} (hd : decode μ.1 pc = .ok (.aaload, 1)) (ha : a < NC) (hs : SH a = .inr (.inr rs)) (hn0 : k0 < NC) (hi : vp_in i rs.length) (hk : rs.getD i.toNatClampNeg none = some k0) (k : Y d μ (pc + 1) ls (.ref k0 :: st) M r M') : Y d μ pc ls (.int i :: .ref a :: st) M r M' :=
  x_aaload hd (nscr ha) (nscr hn0) (by rw [emb_get ha, hs]; rfl) hi hk k
theorem y_copy {idx a0 a n0 n1 : Nat} {n : Int32} (hd : decode μ.1 pc = .ok (.invokestatic idx, 3)) (hw : Cond.methodLink μ.2.1.cls idx arraycopyName ∈ WA) (hdd : 1 ≤ d) (h0 : a0 < NC) (ha : a < NC) (hs0 : SH a0 = .inr (.inl (0, n0))) (hs : SH a = .inr (.inl (0, n1))) (h3 : ¬ n < 0) (h4 : n.toNatClampNeg ≤ n0) (h5 : n.toNatClampNeg ≤ n1) (hst : (st.map fun v => v.category).sum ≤ 8)
    (k : Y d μ (pc + 3) ls st (cpyM M a0 a n.toNatClampNeg) r M') : Y d μ pc ls (.int n :: .int 0 :: .ref a :: .int 0 :: .ref a0 :: st) M r M' := by
  have z : (0 : Int32).toNatClampNeg = 0 := by decide
  refine x_copy hd hw hdd (nscr h0) (nscr ha) (emb_arr h0 hs0) (emb_arr ha hs) (by decide) (by decide) h3 (by rw [z]; simpa using h4) (by rw [z]; simpa using h5) hst ?_
  have e : cpL ((List.range n0).map (M a0)) ((List.range n1).map (M a)) (0 : Int32).toNatClampNeg (0 : Int32).toNatClampNeg n.toNatClampNeg = (List.range n1).map (cpyM M a0 a n.toNatClampNeg a) := by
    rw [z]
    apply List.ext_getElem?
    intro j
    simp only [cpL, List.getElem?_map, List.length_map, List.length_range, Nat.zero_add, Nat.sub_zero, Nat.zero_le, true_and]
    by_cases hj : j < n1
    · rw [List.getElem?_range hj]
      simp only [Option.map_some, Option.some.injEq, cpyM, true_and]
      by_cases hq : j < n.toNatClampNeg
      · rw [if_pos hq, if_pos hq, rng_get (by omega)]
      · rw [if_neg hq, if_neg hq, rng_get hj]
    · simp [hj]
  rw [e, emb_set (M' := cpyM M a0 a n.toNatClampNeg) (fun k hk => cpyM_ne hk) (by rw [hs]; rfl)]
  exact k
theorem y_callV {idx n o ci : Nat} {L : List (Option Nat)} {stk : List Value} {q : vw_C} (hm : MdV μ' n) (hw : (Cond.methodLink μ.2.1.cls idx μ'.2.1) ∈ WA) (hd : decode μ.1 pc = .ok (.invokevirtual idx, 3)) (hs : stk = as.reverse ++ .ref o :: st) (ho : o < NC) (hsh : SH o = .inl (ci, L)) (hX : Y h μ' 0 (lent μ'.2.2.1 (.ref o :: as)) [] M r1 M1) (hh : h + 1 ≤ d) (hn : as.length = n) (hc : ∀ v ∈ as, v.category = 1) (hl : as.length + 1 ≤ μ'.2.2.1) (hq : vwCl[ci]? = some q) (hcq : μ'.2.1.cls = q.1) (hst : (st.map fun v => v.category).sum ≤ 8) (k : Y d μ (pc + 3) ls (r1.toList ++ st) M1 r M') : Y d μ pc ls stk M r M' :=
  x_callV hm hw hd hs hX hh hn hc hl (nscr ho) (emb_obj ho hsh) hq hcq hst (Or.inl (by rw [emb_len, emb_len])) k
theorem y_callS {idx n : Nat} {stk : List Value} (hm : MdS μ' n) (hw : (Cond.methodLink μ.2.1.cls idx μ'.2.1) ∈ WA) (hd : decode μ.1 pc = .ok (.invokestatic idx, 3)) (hs : stk = as.reverse ++ st) (hX : Y h μ' 0 (lent μ'.2.2.1 as) [] M r1 M1) (hh : h + 1 ≤ d) (hn : as.length = n) (hc : ∀ v ∈ as, v.category = 1) (hl : as.length ≤ μ'.2.2.1) (hst : (st.map fun v => v.category).sum ≤ 8) (k : Y d μ (pc + 3) ls (r1.toList ++ st) M1 r M') : Y d μ pc ls stk M r M' :=
  x_callS hm hw hd hs hX hh hn hc hl hst (Or.inl (by rw [emb_len, emb_len])) k
theorem y_callSN {idx n : Nat} {stk : List Value} (hm : MdS μ' n) (hw : (μ.2.1.cls, idx, μ'.2.1) ∈ nests) (hd : decode μ.1 pc = .ok (.invokestatic idx, 3)) (hs : stk = as.reverse ++ st) (hX : Y h μ' 0 (lent μ'.2.2.1 as) [] M r1 M1) (hh : h + 1 ≤ d) (hn : as.length = n) (hc : ∀ v ∈ as, v.category = 1) (hl : as.length ≤ μ'.2.2.1) (hst : (st.map fun v => v.category).sum ≤ 8) (k : Y d μ (pc + 3) ls (r1.toList ++ st) M1 r M') : Y d μ pc ls stk M r M' :=
  x_callSN hm hw hd hs hX hh hn hc hl hst (Or.inl (by rw [emb_len, emb_len])) k
theorem y_ret {v w : Int32} {ty : FieldType} (hd : decode μ.1 pc = .ok (.ireturn, 1)) (hr : μ.2.2.2 = some ty) (hn : narrow ty (.int v) = .int v) (hv : v = w) (hM : M = M') : Y d μ pc ls [.int v] M (some (.int w)) M' := by
  subst hv; subst hM
  exact x_ireturn hd hr hn
theorem y_vret (hd : decode μ.1 pc = .ok (.return_, 1)) (hr : μ.2.2.2 = none) (hM : M = M') : Y d μ pc ls [] M none M' := by
  subst hM
  exact x_return hd hr
end YR
