theorem b2i_z {b : Bool} : b2i b = 0 ↔ b = false := by cases b <;> decide
theorem b2i_T {b : Bool} (h : b = true) : b2i b = 1 := by rw [h]; rfl
theorem b2i_F {b : Bool} (h : b = false) : b2i b = 0 := by rw [h]; rfl
def bothB (V : Row) (a b : Int32) : Bool := hasB V a && hasB V b && decide (a ≠ b)
def sumF (f : Nat → Int32) : Nat → Int32
  | 0 => 0
  | n + 1 => sumF f n + f n
def gvm (V : Row) (t : Nat) : Nat → Int32
  | 0 => 0
  | n + 1 => if canV V t n = true then gvm V t n ||| 1 <<< (nI n &&& 31) else gvm V t n
def gv (V : Row) (t : Nat) : Int32 := gvm V t (nT V)
def rsn (V : Row) (a b : Nat) : Int32 := if V 9 = nI a ∨ V 9 = nI b then 1 else if ¬ 0 < dli V a ∨ ¬ 0 < dli V b then 2 else if ¬ wb V a b = 1 then 3 else if ¬ wb V b a = 1 then 4 else 0
theorem and1 (x : Int32) : x &&& 1 = 0 ∨ x &&& 1 = 1 := by
  have h : ∀ y : BitVec 32, y &&& 1#32 = 0#32 ∨ y &&& 1#32 = 1#32 := by
    intro y
    have ey : (y &&& 1#32).toNat = y.toNat % 2 := by
      rw [BitVec.toNat_and]
      exact Nat.and_one_is_mod _
    rcases Nat.mod_two_eq_zero_or_one y.toNat with q | q
    · left
      apply BitVec.eq_of_toNat_eq
      rw [ey, q]
      rfl
    · right
      apply BitVec.eq_of_toNat_eq
      rw [ey, q]
      rfl
  rcases h x.toBitVec with q | q
  · left; exact Int32.toBitVec_inj.mp (by simpa using q)
  · right; exact Int32.toBitVec_inj.mp (by simpa using q)
theorem wb_01 (V : Row) (t g : Nat) : wb V t g = 0 ∨ wb V t g = 1 := and1 _
theorem n31 {V : Row} (h : WF V) {j : Nat} (hj : j ≤ nT V) : j < 2 ^ 31 := by
  have := (WF_n h).1
  omega
theorem lp_lt {V : Row} (h : WF V) {x : Int32} (hx : x = V 1) {i : Nat} (hi : i ≤ nT V) (c : ¬ x ≤ nI i) : i < nT V := by
  obtain ⟨h1, h2⟩ := WF_n h
  rcases Nat.lt_or_ge i (nT V) with q | q
  · exact q
  · exact absurd (by rw [hx, h2]; exact nI_le q (by omega)) c
theorem lp_eq {V : Row} (h : WF V) {x : Int32} (hx : x = V 1) {i : Nat} (hi : i ≤ nT V) (c : x ≤ nI i) : i = nT V := by
  obtain ⟨h1, h2⟩ := WF_n h
  rw [hx, h2] at c
  have := (nI_leI (by omega) (by omega)).mp c
  omega
theorem dl_pos {V : Row} {j : Nat} : (dl V j ≤ 0) ↔ ¬ 0 < dli V j := by
  unfold dl
  split
  · constructor
    · intro h; exact absurd (Int32.lt_of_lt_of_le ‹_› h) (by simp)
    · intro h; contradiction
  · simp [*]
def us (x k : Int32) : Int32 := (x.toUInt32 >>> (k.toUInt32 &&& Int32.toUInt32 31)).toInt32
def bc1 (x : Int32) : Int32 := x - (us x 1 &&& 1431655765)
def bc2 (x : Int32) : Int32 := (x &&& 858993459) + (us x 2 &&& 858993459)
def bc3 (x : Int32) : Int32 := (x + us x 4) &&& 252645135
def bc4 (x : Int32) : Int32 := x + us x 8
def bc5 (x : Int32) : Int32 := x + us x 16
def bc (x : Int32) : Int32 := bc5 (bc4 (bc3 (bc2 (bc1 x)))) &&& 63
theorem m1_nI {j : Nat} (hj : j < 2 ^ 31) : ¬ nI j = -1 := by
  intro h
  have h1 := congrArg Int32.toInt h
  rw [nI_toInt hj] at h1
  have h2 : (-1 : Int32).toInt = -1 := by decide
  omega
theorem m4_nI {j : Nat} (hj : j < 2 ^ 31) : ¬ nI j = -4 := by
  intro h
  have h1 := congrArg Int32.toInt h
  rw [nI_toInt hj] at h1
  have h2 : (-4 : Int32).toInt = -4 := by decide
  omega
theorem sh_eq {M : Mem} {o : Nat} {V : Row} (hR : RM M o V) (hV : WF V) {j : Nat} (hj : j < nT V) : (nI j = M o 11) ↔ (V 9 = nI j) := by
  have hj2 := n31 hV (Nat.le_of_lt hj)
  rcases hR.1.2.2.2.2.1 with ⟨h1, h2⟩ | ⟨h1, h2⟩
  · rw [h1, h2]
    exact ⟨fun q => absurd q (m1_nI hj2), fun q => absurd q.symm (m4_nI hj2)⟩
  · rw [h1]
    exact eq_comm
theorem dl_0 {V : Row} {j : Nat} (h : ¬ 0 < dli V j) : dl V j = 0 := by
  unfold dl
  rw [if_neg h]
theorem dl_1 {V : Row} {j : Nat} (h : 0 < dli V j) : dl V j = dli V j := by
  unfold dl
  rw [if_pos h]
theorem snd_ab {a b : Nat} (ha : a < 2 ^ 30) (hb : b < 2 ^ 30) : (nI a < nI b) ↔ 0 < nI b - nI a := by
  have h1 := pk_sub_toInt (a := b) (b := a) hb ha
  have h3 : (0 : Int32).toInt = 0 := by decide
  rw [nI_ltI (by omega) (by omega), Int32.lt_iff_toInt_lt, h1, h3]
  omega
theorem snd_iff {V : Row} (hV : WF V) {j : Nat} (hj : j < nT V) : (V (25 + 5 * j) < V (10 + 2 * kd V j)) ↔ 0 < dli V j := by
  obtain ⟨-, -, h3, h4⟩ := hV.2.1 j hj
  obtain ⟨l, hl, hle⟩ := vp_in_of (hV.2.2.1 _ (show kd V j < 6 from vpin_lt h3)).1 (by decide)
  obtain ⟨a, ha, hae⟩ := vp_in_of h4 (by decide)
  unfold dli
  rw [hle, hae]
  exact snd_ab (by omega) (by omega)
