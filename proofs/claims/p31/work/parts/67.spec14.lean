/-! the best barter, searched trader by trader over all ways -/
abbrev Asg : Type := Nat → Option Nat
abbrev Gr : Type := Nat → Nat → Bool
def retB (B : Asg) (t : Nat) : Nat → Nat → Bool
  | 0, _ => false
  | k + 1, x => if x = t then true else match B x with
    | none => false
    | some y => retB B t k y
def Val (can : Gr) (n L : Nat) (B : Asg) : Prop := (∀ t g, t < n → B t = some g → g < n ∧ can t g = true ∧ retB B t L g = true) ∧ ∀ t u g, t < n → u < n → B t = some g → B u = some g → t = u
def cnt (B : Asg) : Nat → Nat
  | 0 => 0
  | n + 1 => cnt B n + (if (B n).isSome = true then 1 else 0)
abbrev Sst : Type := Nat × Asg
noncomputable def leafD (can : Gr) (n L : Nat) (p : Asg) (s : Sst) : Sst := @ite _ (Val can n L p ∧ s.1 ≤ cnt p n) (Classical.propDecidable _) (cnt p n + 1, p) s
def setA (p : Asg) (t : Nat) (o : Option Nat) : Asg := fun j => if j = t then o else p j
def opt (n c : Nat) : Option Nat := if c < n then some c else none
def DF (f : Nat → Sst → Sst) : Nat → Nat → Sst → Sst
  | 0, _, s => s
  | m + 1, c, s => DF f m (c + 1) (f c s)
noncomputable def DD (can : Gr) (n L : Nat) : Nat → Asg → Sst → Sst
  | 0, p, s => leafD can n L p s
  | k + 1, p, s => DF (fun c s => DD can n L k (setA p (n - (k + 1)) (opt n c)) s) (n + 1) 0 s
theorem setA_at {p : Asg} {t : Nat} {o : Option Nat} : setA p t o t = o := by simp [setA]
theorem setA_ne {p : Asg} {t j : Nat} {o : Option Nat} (h : j ≠ t) : setA p t o j = p j := by simp [setA, h]
theorem cnt_congr {A B : Asg} : ∀ n, (∀ j, j < n → A j = B j) → cnt A n = cnt B n
  | 0, _ => rfl
  | n + 1, h => by
    rw [cnt, cnt, cnt_congr n (fun j hj => h j (by omega)), h n (by omega)]
theorem cnt_le (B : Asg) : ∀ n, cnt B n ≤ n
  | 0 => Nat.le_refl _
  | n + 1 => by
    rw [cnt]
    have := cnt_le B n
    split <;> omega
theorem cnt_mono (B : Asg) : ∀ k t, cnt B (t + k) ≤ cnt B t + k
  | 0, _ => Nat.le_refl _
  | k + 1, t => by
    rw [← Nat.add_assoc, cnt]
    have := cnt_mono B k t
    split <;> omega
theorem DF_same (f : Nat → Sst → Sst) (s : Sst) : ∀ m c, (∀ x, c ≤ x → x < c + m → f x s = s) → DF f m c s = s
  | 0, _, _ => rfl
  | m + 1, c, h => by
    rw [DF, h c (Nat.le_refl _) (by omega)]
    exact DF_same f s m (c + 1) (fun x h1 h2 => h x (by omega) (by omega))
/-- no way beyond p is better than what is held: nothing changes -/
theorem DD_same {can : Gr} {n L : Nat} {s : Sst} : ∀ (k : Nat) (p : Asg), k ≤ n → (∀ B, (∀ j, j < n - k → B j = p j) → Val can n L B → cnt B n < s.1) → DD can n L k p s = s
  | 0, p, _, h => by
    rw [DD, leafD]
    rw [@if_neg _ (Classical.propDecidable _)]
    rintro ⟨h1, h2⟩
    have := h p (fun _ _ => rfl) h1
    omega
  | k + 1, p, hk, h => by
    rw [DD]
    apply DF_same
    intro x _ _
    apply DD_same k _ (by omega)
    intro B hB hV
    apply h B _ hV
    intro j hj
    rw [hB j (by omega), setA_ne (by omega)]
/-- the class' look whether the chain closes, or can close still -/
def fitB (p : Asg) (t : Nat) : Nat → Option Nat → Bool
  | 0, _ => false
  | _ + 1, none => false
  | k + 1, some x => if x = t then true else if t < x then decide (0 < k) else fitB p t k (p x)
theorem fit_ret {p B : Asg} {t : Nat} (hB : ∀ j, j < t → B j = p j) : ∀ (k x : Nat), fitB p t k (some x) = false → retB B t k x = false
  | 0, _, _ => rfl
  | k + 1, x, h => by
    rw [fitB] at h
    rw [retB]
    by_cases hx : x = t
    · rw [if_pos hx] at h; cases h
    · rw [if_neg hx] at h ⊢
      by_cases hlt : t < x
      · rw [if_pos hlt] at h
        have hk : k = 0 := by
          have := of_decide_eq_false h
          omega
        subst hk
        cases B x <;> rfl
      · rw [if_neg hlt] at h
        rw [hB x (by omega)]
        cases hp : p x with
        | none => rfl
        | some y =>
          rw [hp] at h
          exact fit_ret hB k y h
/-- bits -/
def bitI (x : Int32) (c : Nat) : Bool := x.toBitVec.getLsbD c
theorem bit_and {x y : Int32} {c : Nat} : bitI (x &&& y) c = (bitI x c && bitI y c) := by simp [bitI]
theorem bit_not {x : Int32} {c : Nat} (h : c < 32) : bitI (x ^^^ -1) c = !bitI x c := by
  have e : (-1 : Int32).toBitVec = BitVec.allOnes 32 := by decide
  simp [bitI, e, h]
theorem sh31 {c : Nat} (h : c < 31) : nI c &&& 31 = nI c := by
  have h1 : ∀ c : Fin 31, nI c.val &&& 31 = nI c.val := by decide +kernel
  exact h1 ⟨c, h⟩
theorem bit_one {c j : Nat} (h : c < 31) (hj : j < 32) : bitI (1 <<< (nI c &&& 31)) j = decide (j = c) := by
  have h1 : ∀ (c : Fin 31) (j : Fin 32), bitI (1 <<< (nI c.val &&& 31)) j.val = decide (j.val = c.val) := by decide +kernel
  exact h1 ⟨c, h⟩ ⟨j, hj⟩
theorem bit_or {x y : Int32} {c : Nat} : bitI (x ||| y) c = (bitI x c || bitI y c) := by simp [bitI]
theorem bit_zero {c : Nat} : bitI 0 c = false := by
  have e : (0 : Int32).toBitVec = 0#32 := by decide
  simp [bitI, e]
theorem bit_0 {y : Int32} : decide (y &&& 1 ≠ 0) = bitI y 0 := by
  have ey : (y.toBitVec &&& 1#32).toNat = y.toBitVec.toNat % 2 := by
    rw [BitVec.toNat_and]
    exact Nat.and_one_is_mod _
  have e2 : bitI y 0 = decide (y.toBitVec.toNat % 2 = 1) := by
    unfold bitI
    rw [BitVec.getLsbD, Nat.testBit_zero]
  rw [e2]
  rcases Nat.mod_two_eq_zero_or_one y.toBitVec.toNat with q | q
  · have h1 : y &&& 1 = 0 := by
      apply Int32.toBitVec_inj.mp
      apply BitVec.eq_of_toNat_eq
      show (y.toBitVec &&& 1#32).toNat = 0
      rw [ey, q]
    rw [h1, q]
    rfl
  · have h1 : y &&& 1 = 1 := by
      apply Int32.toBitVec_inj.mp
      apply BitVec.eq_of_toNat_eq
      show (y.toBitVec &&& 1#32).toNat = 1
      rw [ey, q]
    rw [h1, q]
    rfl
theorem holds_bit {x : Int32} {c : Nat} (h : c < 31) : decide (x >>> (nI c &&& 31) &&& 1 ≠ 0) = bitI x c := by
  rw [bit_0, sh31 h]
  unfold bitI
  have e : ((nI c).toBitVec.smod 32).toNat = c := by
    have h1 : ∀ c : Fin 31, ((nI c.val).toBitVec.smod 32).toNat = c.val := by decide +kernel
    exact h1 ⟨c, h⟩
  rw [Int32.toBitVec_shiftRight, BitVec.sshiftRight', e, BitVec.getLsbD_sshiftRight]
  simp
  omega
theorem sh_half {x : Int32} {c : Nat} (h : c < 31) : (x >>> (nI c &&& 31) &&& 1 = 0) ↔ bitI x c = false := by
  rw [← holds_bit h]
  simp
theorem cmp_m1 {a m : Nat} (ha : a < 16) (hm : m < 9) : (nI a ≤ nI m - 1) ↔ a < m := by
  have h1 : ∀ (a : Fin 16) (m : Fin 9), (nI a.val ≤ nI m.val - 1) ↔ a.val < m.val := by decide +kernel
  exact h1 ⟨a, ha⟩ ⟨m, hm⟩
theorem gI_nI {c : Int32} {o : Option Nat} (h : ∀ q, o = some q → q < 7) {j : Nat} (hj : j < 7) (hc : c = -1 ∨ c = -4) : gI c o = nI j ↔ o = some j := by
  cases o with
  | none =>
    constructor
    · intro q
      exfalso
      rcases hc with rfl | rfl
      · exact m1_nI (by omega) q.symm
      · exact m4_nI (by omega) q.symm
    · intro q; cases q
  | some x =>
    have := h x rfl
    constructor
    · intro q
      have := (nI_eq (a := x) (b := j) (by omega) (by omega)).mp q
      rw [this]
    · intro q; cases q; rfl
