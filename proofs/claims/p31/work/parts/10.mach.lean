def WA : List Cond := lw_tbl.filter goodWord
/-! the abstract machine: cells by number, references as numbers; X says that the machine goes from here to the method's end -/
abbrev cG : Type := (Nat → ClassId) × (Nat → Nat → Nat) × (Nat → ClassId)
abbrev Md : Type := ByteArray × MethodName × Nat × Option FieldType
abbrev AC : Type := (Nat × List Value) ⊕ ((Nat × List Int32) ⊕ List (Option Nat))
def scrId : Nat := 4294967296
def cv (b : Nat) (ad : List Nat) : Value → Value
  | .ref k => .ref (if k = scrId then b else ad.getD k 0)
  | v => v
def cvc (G : cG) (b : Nat) (ad : List Nat) : AC → va_E
  | .inl (ci, fs) => .inr (ci, fs.map (cv b ad))
  | .inr (.inl (t, xs)) => .inl (G.2.2 t, xs.length, .inl (fun j => xs.getD j 0))
  | .inr (.inr rs) => .inl (G.2.2 3, rs.length, .inr (.inr (.inr (.inr (fun j => (rs.getD j none).map (fun k => ad.getD k 0))))))
def csize : AC → Nat
  | .inl (_, fs) => fs.length
  | .inr (.inl (_, xs)) => xs.length
  | .inr (.inr rs) => rs.length
def csz (AH : List AC) : Nat := (AH.map csize).sum
def wsl (G : cG) (b : Nat) (ad : List Nat) (AH : List AC) : va_W := AH.mapIdx (fun k c => (ad.getD k 0, cvc G b ad c))
def tysG (G : cG) : List (ClassId × FieldType) := [(G.2.2 0, .int), (G.2.2 1, .boolean), (G.2.2 2, .char), (G.2.2 3, .object "BarterRings$Market")]
def tyN : Nat → FieldType
  | 0 => .int
  | 1 => .boolean
  | 2 => .char
  | _ => .object "BarterRings$Market"
def nests : List (String × Nat × MethodName) := [(RX5, 31, yX3_init), (RX5, 38, yX0_init), (RX5, 45, yX4_init), (RX2, 87, yX5_isKind), (RX2, 96, yX5_holds), (RX2, 106, yX5_with), (RX4, 57, yX5_holds), (RX4, 64, yX5_with), (RX0, 69, yX5_holds), (RX0, 73, yX5_with)]
def aK (G : cG) (U : State) : Prop := va_K (G.1, G.2.1) vwCl (tysG G) U ∧ (∀ q ∈ nests, va_Nw (.methodLinkNest q.1 q.2.1 q.2.2 "BarterRings") U) ∧ va_AO "BarterRings$Market" U
def aW (G : cG) (b : Nat) (ad : List Nat) (AH : List AC) (H : Heap) : Prop := ad.length = AH.length ∧ va_P (G.1, G.2.1) vwCl (wsl G b ad AH) H ∧ va_D (fun _ => True) (wsl G b ad AH)
def okv (n : Nat) : Value → Bool
  | .ref k => decide (k < n) || decide (k = scrId)
  | _ => true
def okc (n : Nat) : AC → Bool
  | .inl (_, fs) => fs.all (okv n)
  | .inr (.inl _) => true
  | .inr (.inr rs) => rs.all (fun o => match o with | some k => decide (k < n) | none => true)
def okH (AH : List AC) : Bool := AH.all (okc AH.length)
def okL (n : Nat) (ls : List (Option Value)) : Bool := ls.all (fun o => match o with | some v => okv n v | none => true)
def lsOK (lsA : Array Slot) (nL b : Nat) (ad : List Nat) (ls : List (Option Value)) : Prop := lsA.size = nL ∧ lv_wf lsA ∧ ∀ (i : Nat) (v : Value), ls[i]? = some (some v) → lsA[i]? = some (.val (cv b ad v))
def lent (n : Nat) (as : List Value) : List (Option Value) := as.map some ++ List.replicate (n - as.length) none
def Ends (μ : Md) (pc : Nat) (st : List Value) (r : Option Value) : Prop :=
  (decode μ.1 pc = .ok (.return_, 1) ∧ st = [] ∧ r = none ∧ μ.2.2.2 = none) ∨
  (∃ (v : Int32) (ty : FieldType), decode μ.1 pc = .ok (.ireturn, 1) ∧ st = [.int v] ∧ r = some (.int v) ∧ μ.2.2.2 = some ty ∧ narrow ty (.int v) = .int v) ∨
  (∃ v : UInt64, decode μ.1 pc = .ok (.dreturn, 1) ∧ st = [.double v] ∧ r = some (.double v) ∧ μ.2.2.2 = some .double) ∨
  (∃ (k : Nat) (C : String), decode μ.1 pc = .ok (.areturn, 1) ∧ st = [.ref k] ∧ r = some (.ref k) ∧ μ.2.2.2 = some (.object C))
abbrev cS : Type := Option (Nat × (Nat → Int32))
def scOK (sc : cS) (b : Nat) (s : State) (A : Nat → Prop) (H0 : Heap) : Prop := match sc with
  | none => True
  | some (L, xs) => va_X b L xs s H0 ∧ b < H0.size ∧ ¬ A b
def Cx (sc : cS) (G : cG) (μ : Md) (d : Nat) (ls : List (Option Value)) (AH : List AC) (r : Option Value) (AH' : List AC) (p : Program) (l : Launch) (e : Env) (R : Room) (s : State) (m : MethodId) (args : Array Value) (below : List Frame) (meth : Method) (c : Code) (H : Heap) (locs : List Loc) (cells slots : Nat) (Q : State → Prop) (lsA : Array Slot) (b : Nat) (ad : List Nat) (A : Nat → Prop) (H0 : Heap) (n0 s0 : Nat) : Prop :=
  (p.tables.exec = Jvm.exec ∧ c.code = μ.1 ∧ c.maxLocals = μ.2.2.1 ∧ s.vm.findClass μ.2.1.cls = some m.cls ∧ (∀ w ∈ WA, w.before args s = true) ∧ (μ.2.1.name = "<init>" → meth.name = "<init>")) ∧
  lsOK lsA μ.2.2.1 b ad ls ∧ aW G b ad AH H ∧ (aK G s ∧ scOK sc b s A H0) ∧ (va_S A H0 H locs ∧ (∀ q, H0.size ≤ q → A q) ∧ ∀ x ∈ ad, A x) ∧
  (d ≤ R.frames ∧ 40 * d ≤ R.locals) ∧ (cells + n0 = AH.length ∧ slots + s0 = csz AH ∧ AH'.length ≤ R.cells + n0 ∧ csz AH' ≤ R.slots + s0) ∧
  (∀ (pc : Nat) (lsB : Array Slot) (st : List Value) (ex : List Nat) (H' : Heap) (locs' : List Loc) (cells' slots' : Nat), Ends μ pc st r → aW G b (ad ++ ex) AH' H' → va_S A H0 H' locs' → (∀ x ∈ ad ++ ex, A x) → cells' + n0 = AH'.length → slots' + s0 = csz AH' →
    W p l e R s m args below meth c H' locs' cells' slots' Q (F0 m pc lsB (st.map (cv b (ad ++ ex)))))
def X (sc : cS) (d : Nat) (μ : Md) (pc : Nat) (ls : List (Option Value)) (st : List Value) (AH : List AC) (r : Option Value) (AH' : List AC) : Prop :=
  (AH.length ≤ AH'.length ∧ csz AH ≤ csz AH') ∧
  ∀ (G : cG) (p : Program) (l : Launch) (e : Env) (R : Room) (s : State) (m : MethodId) (args : Array Value) (below : List Frame) (meth : Method) (c : Code) (H : Heap) (locs : List Loc) (cells slots : Nat) (Q : State → Prop) (lsA : Array Slot) (b : Nat) (ad : List Nat) (A : Nat → Prop) (H0 : Heap) (n0 s0 : Nat),
    Cx sc G μ d ls AH r AH' p l e R s m args below meth c H locs cells slots Q lsA b ad A H0 n0 s0 → W p l e R s m args below meth c H locs cells slots Q (F0 m pc lsA (st.map (cv b ad)))
/-! worlds -/
theorem wsl_len {G : cG} {b : Nat} {ad : List Nat} {AH : List AC} : (wsl G b ad AH).length = AH.length := by simp [wsl]
theorem wsl_get {G : cG} {b : Nat} {ad : List Nat} {AH : List AC} {k : Nat} {c : AC} (h : AH[k]? = some c) : (wsl G b ad AH)[k]? = some (ad.getD k 0, cvc G b ad c) := by simp [wsl, h]
theorem wsl_inv {G : cG} {b : Nat} {ad : List Nat} {AH : List AC} {k : Nat} {q : Nat × va_E} (h : (wsl G b ad AH)[k]? = some q) : ∃ c, AH[k]? = some c ∧ q = (ad.getD k 0, cvc G b ad c) := by
  simp only [wsl, List.getElem?_mapIdx] at h
  cases hc : AH[k]? with
  | none => rw [hc] at h; cases h
  | some c => rw [hc] at h; exact ⟨c, rfl, (Option.some.inj h).symm⟩
theorem wsl_set {G : cG} {b : Nat} {ad : List Nat} {AH : List AC} {k : Nat} {c : AC} : (wsl G b ad AH).set k (ad.getD k 0, cvc G b ad c) = wsl G b ad (AH.set k c) := by
  apply List.ext_getElem?
  intro i
  simp only [wsl, List.getElem?_set, List.getElem?_mapIdx, List.length_mapIdx]
  by_cases h : k = i
  · subst h
    by_cases hl : k < AH.length
    · simp [hl]
    · simp [hl]
  · simp [h]
theorem cv_cat {b : Nat} {ad : List Nat} (v : Value) : (cv b ad v).category = v.category := by cases v <;> rfl
theorem cv_ext {b : Nat} {ad ex : List Nat} {v : Value} (h : okv ad.length v = true) : cv b (ad ++ ex) v = cv b ad v := by
  cases v <;> try rfl
  rename_i k
  simp only [okv, Bool.or_eq_true, decide_eq_true_eq] at h
  simp only [cv]
  by_cases hk : k = scrId
  · simp [hk]
  · have hl : k < ad.length := by
      rcases h with h | h
      · exact h
      · exact absurd h hk
    simp [hk, List.getD_eq_getElem?_getD, List.getElem?_append_left hl]
theorem cvc_ext {G : cG} {b : Nat} {ad ex : List Nat} {c : AC} (h : okc ad.length c = true) : cvc G b (ad ++ ex) c = cvc G b ad c := by
  rcases c with ⟨ci, fs⟩ | ⟨t, xs⟩ | rs
  · simp only [cvc]
    congr 2
    apply List.map_congr_left
    intro v hv
    exact cv_ext (List.all_eq_true.mp h v hv)
  · rfl
  · simp only [cvc]
    have e : (fun j : Nat => (rs.getD j none).map (fun k => (ad ++ ex).getD k 0)) = (fun j : Nat => (rs.getD j none).map (fun k => ad.getD k 0)) := by
      funext j
      cases hj : rs.getD j none with
      | none => rfl
      | some k =>
        have hm : some k ∈ rs := by
          rw [List.getD_eq_getElem?_getD] at hj
          cases hq : rs[j]? with
          | none => rw [hq] at hj; cases hj
          | some o => rw [hq] at hj; simp at hj; exact hj ▸ List.mem_of_getElem? hq
        have hl : k < ad.length := by simpa using List.all_eq_true.mp h _ hm
        simp [List.getD_eq_getElem?_getD, List.getElem?_append_left hl]
    rw [e]
theorem wsl_ext {G : cG} {b : Nat} {ad ex : List Nat} {AH : List AC} (hl : ad.length = AH.length) (h : okH AH = true) : wsl G b (ad ++ ex) AH = wsl G b ad AH := by
  apply List.ext_getElem?
  intro i
  simp only [wsl, List.getElem?_mapIdx]
  cases hc : AH[i]? with
  | none => rfl
  | some c =>
    have hi : i < ad.length := by rw [hl]; exact (List.getElem?_eq_some_iff.mp hc).1
    have ho : okc ad.length c = true := by rw [hl]; exact List.all_eq_true.mp h c (List.mem_of_getElem? hc)
    simp [cvc_ext ho, List.getD_eq_getElem?_getD, List.getElem?_append_left hi]
theorem wsl_push {G : cG} {b q : Nat} {ad : List Nat} {AH : List AC} {c : AC} (hl : ad.length = AH.length) (h : okH AH = true) : wsl G b ad AH ++ [(q, cvc G b (ad ++ [q]) c)] = wsl G b (ad ++ [q]) (AH ++ [c]) := by
  have e : wsl G b (ad ++ [q]) (AH ++ [c]) = wsl G b (ad ++ [q]) AH ++ [((ad ++ [q]).getD AH.length 0, cvc G b (ad ++ [q]) c)] := by simp [wsl, List.mapIdx_append]
  rw [e, wsl_ext hl h]
  simp [List.getD_eq_getElem?_getD, ← hl]
theorem st_ext {b : Nat} {ad ex : List Nat} {st : List Value} (h : st.all (okv ad.length) = true) : st.map (cv b (ad ++ ex)) = st.map (cv b ad) := by
  apply List.map_congr_left
  intro v hv
  exact cv_ext (List.all_eq_true.mp h v hv)
theorem lsOK_ext {lsA : Array Slot} {nL b : Nat} {ad ex : List Nat} {ls : List (Option Value)} (h : lsOK lsA nL b ad ls) (ho : okL ad.length ls = true) : lsOK lsA nL b (ad ++ ex) ls := by
  refine ⟨h.1, h.2.1, fun i v hv => ?_⟩
  rw [h.2.2 i v hv]
  have h1 : okv ad.length v = true := by simpa using List.all_eq_true.mp ho _ (List.mem_of_getElem? hv)
  rw [cv_ext h1]
theorem wsl_addr {G : cG} {b : Nat} {ad : List Nat} {AH : List AC} (hl : ad.length = AH.length) {A : Nat → Prop} (h : ∀ x ∈ ad, A x) {k : Nat} {q : Nat × va_E} (hq : (wsl G b ad AH)[k]? = some q) : A q.1 := by
  obtain ⟨c, hc, rfl⟩ := wsl_inv hq
  have hi : k < ad.length := by rw [hl]; exact (List.getElem?_eq_some_iff.mp hc).1
  apply h
  simp [List.getD_eq_getElem?_getD, hi]
theorem aW_D {G : cG} {b : Nat} {ad : List Nat} {AH : List AC} {H : Heap} {A : Nat → Prop} (h : aW G b ad AH H) (hA : ∀ x ∈ ad, A x) : va_D A (wsl G b ad AH) := ⟨h.2.2.1, fun k q hq => wsl_addr h.1 hA hq⟩
theorem aW_of {G : cG} {b : Nat} {ad : List Nat} {AH : List AC} {H : Heap} {A : Nat → Prop} (hl : ad.length = AH.length) (hP : va_P (G.1, G.2.1) vwCl (wsl G b ad AH) H) (hD : va_D A (wsl G b ad AH)) : aW G b ad AH H := ⟨hl, hP, hD.weaken (fun _ _ _ _ => trivial)⟩
theorem csz_set {AH : List AC} {k : Nat} {c c0 : AC} (h : AH[k]? = some c0) (hc : csize c = csize c0) : csz (AH.set k c) = csz AH := by
  have : (AH.set k c).map csize = AH.map csize := by
    rw [List.map_set]
    apply List.ext_getElem?
    intro i
    rw [List.getElem?_set]
    by_cases hi : k = i
    · subst hi
      obtain ⟨hl, he⟩ := List.getElem?_eq_some_iff.mp h
      simp [hl, hc, he]
    · simp [hi]
  rw [csz, csz, this]
theorem csz_push {AH : List AC} {c : AC} : csz (AH ++ [c]) = csz AH + csize c := by simp [csz]
theorem wa_good : GoodIn WA WA := fun _ hw => ⟨hw, good_of_word (List.mem_filter.mp hw).2⟩
theorem wa_t {w : Cond} (i : Nat) (h : tables_1[i]? = some w) (hg : goodWord w = true) : w ∈ WA := List.mem_filter.mpr ⟨List.mem_append_right _ (List.mem_of_getElem? h), hg⟩
theorem wa_s {w : Cond} (i : Nat) (h : (k2_sels lw_privs)[i]? = some w) (hg : goodWord w = true) : w ∈ WA := List.mem_filter.mpr ⟨List.mem_append_left _ (List.mem_of_getElem? h), hg⟩
theorem wa_cp1 : Cond.native arraycopyName ∈ WA := wa_t 237 rfl rfl
theorem wa_cp2 : Cond.static arraycopyName ∈ WA := wa_t 236 rfl rfl
theorem wa_cp3 : Cond.initialized "java/lang/System" ∈ WA := wa_t 10 rfl rfl
theorem wa_oi1 : Cond.instanceMethod Lib.objectInit ∈ WA := wa_t 17 rfl rfl
theorem wa_oi2 : Cond.code Lib.objectInit ⟨#[0xb1]⟩ 1 none ∈ WA := wa_t 18 rfl rfl
