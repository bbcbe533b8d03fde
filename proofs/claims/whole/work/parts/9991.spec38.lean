/-! the memory that the constructors leave -/
def zer : Mem := fun _ _ => 0
def ini : Mem := iniR (iniG zer)
theorem Zi_zer : Zi 0 zer := ⟨by decide, fun _ _ _ => rfl, fun k hk => absurd hk (by omega)⟩
def lenR (k : Nat) : Nat := match SH k with
  | .inl (_, L) => L.length
  | .inr (.inl _) => 0
  | .inr (.inr rs) => rs.length
theorem rf_len {k j r : Nat} (h : rf (SH k) j = some r) : j < lenR k := by
  unfold lenR
  cases hs : SH k with
  | inl p =>
    rw [hs] at h
    have h : p.2.getD j none = some r := h
    show j < p.2.length
    rcases Nat.lt_or_ge j p.2.length with q | q
    · exact q
    · rw [List.getD_eq_getElem?_getD, List.getElem?_eq_none q] at h
      cases h
  | inr p =>
    cases p with
    | inl p => rw [hs] at h; cases h
    | inr rs =>
      rw [hs] at h
      have h : rs.getD j none = some r := h
      show j < rs.length
      rcases Nat.lt_or_ge j rs.length with q | q
      · exact q
      · rw [List.getD_eq_getElem?_getD, List.getElem?_eq_none q] at h
        cases h
theorem lenR_20 : ∀ k, k < 95 → lenR k ≤ 20 := by decide +kernel
theorem ini_ck : ∀ k, k < 95 → ∀ j, j < 20 → rf (SH k) j = none ∨ ini k j ≠ 0 := by decide +kernel
theorem ini_all : ∀ k, k < NC → ∀ j r, rf (SH k) j = some r → ini k j ≠ 0 := by
  intro k hk j r h
  have h1 := rf_len h
  have h2 := lenR_20 k hk
  rcases ini_ck k hk j (by omega) with q | q
  · rw [q] at h; cases h
  · exact q
theorem ini_n : nT (ini 85) = 0 := by decide +kernel
theorem ini_RM : RM ini 1 (ini 85) := by
  refine ⟨⟨by decide +kernel, by decide +kernel, by decide +kernel, by decide +kernel, Or.inl ⟨by decide +kernel, by decide +kernel⟩, by decide +kernel, by decide +kernel, by decide +kernel, by decide +kernel, by decide +kernel⟩, by decide +kernel, fun j hj => ?_⟩
  rw [ini_n] at hj
  exact absurd hj (by omega)
theorem ini_Good : Good (ini 85) := by
  have h6 : ∀ k, k < 6 → ¬ (ini 85 (10 + 2 * k) < 0 ∨ 10 ≤ (ini 85 (10 + 2 * k)).toNatClampNeg) ∧ 0 < ini 85 (10 + 2 * k) := by decide +kernel
  refine ⟨⟨fun q => absurd q (by decide +kernel), fun j hj => ?_, fun k hk => h6 k hk, ⟨fun q => absurd q (by decide +kernel), by decide +kernel⟩, fun q => absurd q (by decide +kernel), Or.inl (by decide +kernel)⟩, fun j hj => ?_⟩
  · rw [ini_n] at hj
    exact absurd hj (by omega)
  · rw [ini_n] at hj
    exact absurd hj (by omega)
theorem ini_Inv : Inv2 ini 0 0 := by
  refine ⟨⟨⟨ini_RM, by omega, by decide +kernel, 0, by omega, by decide +kernel, fun i hi => absurd hi (by omega)⟩, ini_Good, by decide +kernel, fun i hi => absurd hi (by omega)⟩, InvP_0 (by decide +kernel) (by decide +kernel), ⟨by decide +kernel, Or.inl (by decide +kernel)⟩, Or.inl ⟨by decide +kernel, by decide +kernel, by decide +kernel⟩⟩
def szS (s : Sh) : Nat := match s with
  | .inl (_, L) => L.length
  | .inr (.inl (_, n)) => n
  | .inr (.inr rs) => rs.length
theorem csz_emb {M : Mem} : csz (emb M) ≤ 7302250 := by
  have h : (emb M).map csize = (List.range NC).map (fun k => szS (SH k)) := by
    unfold emb
    rw [List.map_map]
    apply List.map_congr_left
    intro k hk
    show csize (cellS (SH k) (M k)) = szS (SH k)
    cases SH k with
    | inl p => exact mkF_len _ _ _
    | inr p =>
      cases p with
      | inl p =>
        show ((List.range p.2).map (M k)).length = p.2
        simp
      | inr rs => rfl
  unfold csz
  rw [h]
  decide +kernel
theorem and31 (x : Int32) : ∃ k, k < 32 ∧ x &&& 31 = nI k := by
  refine ⟨(x.toBitVec &&& 31#32).toNat, ?_, ?_⟩
  · rw [BitVec.toNat_and]
    exact Nat.lt_of_le_of_lt Nat.and_le_right (by decide)
  · apply Int32.toBitVec_inj.mp
    rw [Int32.toBitVec_and]
    apply BitVec.eq_of_toNat_eq
    show _ = (BitVec.ofNat 32 (x.toBitVec &&& 31#32).toNat).toNat
    rw [BitVec.toNat_ofNat, Nat.mod_eq_of_lt (BitVec.isLt _)]
    rfl
theorem cmp_L {L i : Nat} (hL : L ≤ 1536) (hi : i < 2000) : nI L - 3 < nI i ↔ L < i + 3 := by
  have h1 := pk_sub_toInt (a := L) (b := 3) (by omega) (by omega)
  have h2 := nI_toInt (n := i) (by omega)
  rw [Int32.lt_iff_toInt_lt, show (3 : Int32) = nI 3 from rfl, h1, h2]
  omega
theorem l_callV {sc : cS} {d h : Nat} {μ μ' : Md} {pc : Nat} {ls : List (Option Value)} {st as : List Value} {M M1 : Mem} {r r1 : Option Value} {AH' : List AC} {idx n o ci : Nat} {L : List (Option Nat)} {stk : List Value} {q : vw_C} (hm : MdV μ' n) (hw : (Cond.methodLink μ.2.1.cls idx μ'.2.1) ∈ WA) (hd : decode μ.1 pc = .ok (.invokevirtual idx, 3)) (hs : stk = as.reverse ++ .ref o :: st) (ho : o < NC) (hsh : SH o = .inl (ci, L)) (hX : Y h μ' 0 (lent μ'.2.2.1 (.ref o :: as)) [] M r1 M1) (hh : h + 1 ≤ d) (hn : as.length = n) (hc : ∀ v ∈ as, v.category = 1) (hl : as.length + 1 ≤ μ'.2.2.1) (hq : vwCl[ci]? = some q) (hcq : μ'.2.1.cls = q.1) (hst : (st.map fun v => v.category).sum ≤ 8) (k : X sc d μ (pc + 3) ls (r1.toList ++ st) (emb M1) r AH') : X sc d μ pc ls stk (emb M) r AH' :=
  x_callV hm hw hd hs hX hh hn hc hl (nscr ho) (emb_obj ho hsh) hq hcq hst (Or.inl (by rw [emb_len, emb_len])) k
