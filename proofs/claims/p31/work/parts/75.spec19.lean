/-! sets of traders as numbers below 128 -/
theorem nI_and (a b : Nat) : nI a &&& nI b = nI (a &&& b) := by
  apply Int32.toBitVec_inj.mp
  show BitVec.ofNat 32 a &&& BitVec.ofNat 32 b = BitVec.ofNat 32 (a &&& b)
  exact (BitVec.ofNat_and ..).symm
theorem nI_or (a b : Nat) : nI a ||| nI b = nI (a ||| b) := by
  apply Int32.toBitVec_inj.mp
  show BitVec.ofNat 32 a ||| BitVec.ofNat 32 b = BitVec.ofNat 32 (a ||| b)
  exact (BitVec.ofNat_or ..).symm
theorem nI_xor (a b : Nat) : nI a ^^^ nI b = nI (a ^^^ b) := by
  apply Int32.toBitVec_inj.mp
  show BitVec.ofNat 32 a ^^^ BitVec.ofNat 32 b = BitVec.ofNat 32 (a ^^^ b)
  exact (BitVec.ofNat_xor ..).symm
theorem nI_s1 (a : Nat) : nI (a + 1) - 1 = nI a := by
  rw [← nI_1]
  exact Int32.add_sub_cancel _ _
theorem bit_nI {x c : Nat} (h : c < 32) : bitI (nI x) c = x.testBit c := by
  unfold bitI
  show (BitVec.ofNat 32 x).getLsbD c = x.testBit c
  rw [BitVec.getLsbD, BitVec.toNat_ofNat, Nat.testBit_mod_two_pow]
  simp [h]
theorem one_sh {c : Nat} (h : c < 31) : (1 : Int32) <<< (nI c &&& 31) = nI (2 ^ c) := by
  have h1 : ∀ c : Fin 31, (1 : Int32) <<< (nI c.val &&& 31) = nI (2 ^ c.val) := by decide +kernel
  exact h1 ⟨c, h⟩
def lsB (x : Nat) : Nat → Nat → Nat
  | 0, i => i
  | k + 1, i => if x.testBit i = true then i else lsB x k (i + 1)
def lo (x : Nat) : Nat := lsB x 6 0
def sb (x c : Nat) : Nat := x ||| 2 ^ c
def msk (f : Nat → Bool) : Nat → Int32
  | 0 => 0
  | n + 1 => if f n = true then msk f n ||| 1 <<< (nI n &&& 31) else msk f n
def tkR (V : Row) (i j : Nat) (W : Row) : Row := fun g => if g < nT V then msk (fun t => canV V t g) (if g < j then i + 1 else i) else W g
theorem tkR_n {V : Row} {i : Nat} {W : Row} : tkR V i (nT V) W = tkR V (i + 1) 0 W := by
  funext g
  unfold tkR
  by_cases h : g < nT V
  · rw [if_pos h, if_pos h, if_pos h, if_neg (by omega)]
  · rw [if_neg h, if_neg h]
theorem tkR_s {V : Row} {i j : Nat} {W : Row} (hj : j < nT V) (h : canV V i j = true) : upd (tkR V i j W) j (tkR V i j W j ||| 1 <<< (nI i &&& 31)) = tkR V i (j + 1) W := by
  funext g
  unfold upd tkR
  by_cases hg : g = j
  · subst hg
    simp [hj, msk, h]
  · simp only [hg, if_false]
    by_cases h2 : g < j
    · simp [h2, show g < j + 1 by omega]
    · simp [h2, show ¬ g < j + 1 by omega]
theorem tkR_f {V : Row} {i j : Nat} {W : Row} (h : ¬ canV V i j = true) : tkR V i j W = tkR V i (j + 1) W := by
  funext g
  unfold tkR
  by_cases hg : g = j
  · subst hg
    simp [msk, h]
  · by_cases h2 : g < j
    · simp [h2, show g < j + 1 by omega]
    · simp [h2, show ¬ g < j + 1 by omega]
def chS (tk : Row) (x i : Nat) (R : Row) : Row := if x.testBit i = false ∧ ¬ R x &&& tk i = 0 then upd R (sb x i) (R (sb x i) ||| 1 <<< (nI i &&& 31)) else R
def chI (tk : Row) (n x : Nat) : Nat → Row → Row
  | 0, R => R
  | k + 1, R => chI tk n x k (chS tk x (n - (k + 1)) R)
def chO (tk : Row) (n m : Nat) : Nat → Row → Row
  | 0, R => R
  | k + 1, R => chO tk n m k (chI tk n (m - (k + 1)) (n - (lo (m - (k + 1)) + 1)) R)
def sgl : Nat → Row → Row
  | 0, R => R
  | k + 1, R => upd (sgl k R) (2 ^ k) (nI (2 ^ k))
def cirB (LO tk : Row) (L x : Nat) : Bool := decide (¬ bc (nI x) < 2) && decide (bc (nI x) ≤ nI L) && decide (¬ LO x &&& tk (lo x) = 0)
def mcL (C B : Row) (l o : Nat) : Nat → Nat → Bool
  | 0, _ => false
  | k + 1, s => if s = 0 then false else if ¬ C (l ||| s) = 0 ∧ ¬ B (o ^^^ s) = 0 then true else mcL C B l o k ((s - 1) &&& o)
def mcB (C B : Row) (x : Nat) : Bool := mcL C B (x ^^^ (x &&& (x - 1))) (x &&& (x - 1)) 128 (x &&& (x - 1))
def btO (C : Row) (m : Nat) : Nat → Int32 → Row → Int32 × Row
  | 0, a, B => (a, B)
  | k + 1, a, B => btO C m k (if mcB C B (m - (k + 1)) = true then (if a < bc (nI (m - (k + 1))) then bc (nI (m - (k + 1))) else a) else a) (upd B (m - (k + 1)) (b2i (mcB C B (m - (k + 1)))))
theorem lsB_le (x : Nat) : ∀ k i, lsB x k i ≤ i + k
  | 0, i => by rw [lsB]; omega
  | k + 1, i => by
    rw [lsB]
    have := lsB_le x k (i + 1)
    split <;> omega
theorem lo_le (x : Nat) : lo x ≤ 6 := by
  have := lsB_le x 6 0
  unfold lo
  omega
theorem p2_le {n : Nat} (h : n ≤ 7) : 2 ^ n ≤ 128 := by
  have h1 : ∀ n : Fin 8, 2 ^ n.val ≤ 128 := by decide
  exact h1 ⟨n, by omega⟩
theorem p2_lt {i n : Nat} (h : i < n) (hn : n ≤ 7) : 2 ^ i < 2 ^ n ∧ 2 ^ i < 128 := by
  have h1 := Nat.pow_lt_pow_right (show 1 < 2 by decide) h
  have := p2_le hn
  exact ⟨h1, by omega⟩
theorem sb_lt {x i n : Nat} (hx : x < 2 ^ n) (hi : i < n) : sb x i < 2 ^ n := Nat.or_lt_two_pow hx (Nat.pow_lt_pow_right (by decide) hi)
theorem sb_lt7 {x i n : Nat} (hx : x < 2 ^ n) (hi : i < n) (hn : n ≤ 7) : sb x i < 128 := by
  have := sb_lt hx hi
  have := p2_le hn
  omega
theorem and_lt7 {x y : Nat} (h : x < 128) : x &&& y < 128 := Nat.lt_of_le_of_lt Nat.and_le_left h
theorem or_lt7 {x y : Nat} (h : x < 128) (h2 : y < 128) : x ||| y < 128 := Nat.or_lt_two_pow (n := 7) h h2
theorem xor_lt7 {x y : Nat} (h : x < 128) (h2 : y < 128) : x ^^^ y < 128 := Nat.xor_lt_two_pow (n := 7) h h2
theorem sb_nI {x c : Nat} (h : c < 31) : nI x ||| 1 <<< (nI c &&& 31) = nI (sb x c) := by
  rw [one_sh h, nI_or]
  rfl
theorem sgl_ok {n : Nat} (hn : n ≤ 7) {R : Row} : ∀ k, k ≤ n → ∀ y, y < 128 → (sgl k R y = if ∃ i, i < k ∧ y = 2 ^ i then nI y else R y)
  | 0, _, y, _ => by
    rw [sgl, if_neg]
    rintro ⟨i, hi, _⟩
    omega
  | k + 1, hk, y, hy => by
    rw [sgl]
    unfold upd
    by_cases h : y = 2 ^ k
    · rw [if_pos h, if_pos ⟨k, by omega, h⟩, h]
    · rw [if_neg h, sgl_ok hn k (by omega) y hy]
      by_cases h2 : ∃ i, i < k ∧ y = 2 ^ i
      · obtain ⟨i, hi, he⟩ := h2
        rw [if_pos ⟨i, hi, he⟩, if_pos ⟨i, by omega, he⟩]
      · rw [if_neg h2, if_neg]
        rintro ⟨i, hi, he⟩
        by_cases hik : i = k
        · subst hik; exact h he
        · exact h2 ⟨i, by omega, he⟩
def ciR (LO tk : Row) (L m : Nat) (W : Row) : Row := fun y => if 1 ≤ y ∧ y < m then b2i (cirB LO tk L y) else W y
theorem ciR_s {LO tk : Row} {L m : Nat} {W : Row} (h : 1 ≤ m) : upd (ciR LO tk L m W) m (b2i (cirB LO tk L m)) = ciR LO tk L (m + 1) W := by
  funext y
  unfold upd ciR
  by_cases hy : y = m
  · subst hy
    rw [if_pos rfl, if_pos ⟨h, by omega⟩]
  · rw [if_neg hy]
    by_cases h2 : 1 ≤ y ∧ y < m
    · rw [if_pos h2, if_pos ⟨h2.1, by omega⟩]
    · rw [if_neg h2, if_neg (by omega)]
theorem and_sub {s o : Nat} (hs : s ≠ 0) : (s - 1) &&& o < s := by
  have := Nat.and_le_left (n := s - 1) (m := o)
  omega
theorem b2i_a1 {b : Bool} : b2i b &&& 1 = b2i b := by cases b <;> decide
