def WFa (V : Row) : Prop := ∀ j, j < nT V → vp_in (V (25 + 5 * j)) 10
def Good (V : Row) : Prop := WF V ∧ WFa V
def setR (M : Mem) (a : Nat) (V : Row) : Mem := fun k => if k = a then V else M k
theorem updM_row {M : Mem} {a i : Nat} {x : Int32} : updM M a i x = setR M a (upd (M a) i x) := by
  funext k j
  by_cases hk : k = a
  · subst hk; simp [updM, setR, upd]
  · simp [updM, setR, hk]
theorem row_at {M : Mem} {a : Nat} {V : Row} : setR M a V a = V := by simp [setR]
theorem row_row {M : Mem} {a : Nat} {V W : Row} : setR (setR M a V) a W = setR M a W := by
  funext k
  by_cases hk : k = a <;> simp [setR, hk]
theorem row_self {M : Mem} {a : Nat} : setR M a (M a) = M := by
  funext k
  by_cases hk : k = a <;> simp [setR, hk]
theorem row_ne {M : Mem} {a k : Nat} {V : Row} (h : k ≠ a) : setR M a V k = M k := by simp [setR, h]
/-- a trader has the ware k of the age a -/
def gets1 (V : Row) (t k : Nat) (a : Int32) : Row := upd (upd V (24 + 5 * t) (nI k)) (25 + 5 * t) a
def gets2 (V : Row) (t k : Nat) : Row := upd V (23 + 5 * t) (V (23 + 5 * t) &&& (1 <<< (nI k &&& 31) ^^^ -1))
def gets3 (V : Row) (t : Nat) : Row := upd V (26 + 5 * t) (V (26 + 5 * t) + 1)
def gets4 (V : Row) (k : Nat) : Row := upd V (11 + 2 * k) (V (11 + 2 * k) + 1)
def gets5 (V : Row) : Row := upd V 2 (V 2 + 1)
def getsV (V : Row) (t k : Nat) (a : Int32) : Row := gets5 (gets4 (gets3 (gets2 (gets1 V t k a) t k) t) k)
def come1 (V : Row) (n : Nat) (mk w : Int32) : Row := upd (upd (upd (upd (upd V (22 + 5 * n) mk) (23 + 5 * n) w) (24 + 5 * n) mk) (25 + 5 * n) 0) (26 + 5 * n) 0
def come2 (V : Row) : Row := upd V 4 (V 4 + 1)
def comeV (V : Row) (mk w : Int32) : Row := come2 (come1 (upd V 1 (V 1 + 1)) (nT V) mk w)
/-- a day passes for the first traders: the row, and how many wares are thrown away -/
def ps1 (W : Row) (i : Nat) : Row := upd W (25 + 5 * i) (W (25 + 5 * i) + 1)
def ps2 (W : Row) (i : Nat) : Row := upd (upd W (24 + 5 * i) (W (22 + 5 * i))) (25 + 5 * i) 0
def pl (V : Row) : Nat → Row × Int32
  | 0 => (upd V 0 (V 0 + 1), 0)
  | i + 1 => if dl (ps1 (pl V i).1 i) i = 0 then (ps2 (ps1 (pl V i).1 i) i, (pl V i).2 + 1) else (ps1 (pl V i).1 i, (pl V i).2)
def lotx (x : Int32) : Int32 := (421 * x + 1663) - (421 * x + 1663) / 10000 * 10000
def rem32 (x y : Int32) : Int32 := x - x / y * y
def pd1 (W : Row) (c : Int32) : Row := upd W 3 (W 3 + c)
def pd2 (W : Row) (c : Int32) : Row := upd W 4 (W 4 + c)
def pd3 (W : Row) : Row := upd W 8 (lotx (W 8))
def pd4 (W : Row) : Row := upd W 9 (if rem32 (W 8) (W 1 + 1) < W 1 then rem32 (W 8) (W 1 + 1) else -4)
def passV (V : Row) : Row := pd4 (pd3 (pd2 (pd1 (pl V (nT V)).1 (pl V (nT V)).2) (pl V (nT V)).2))
def thrV (V : Row) : Int32 := (pl V (nT V)).2
def rowN (V : Row) (n : Nat) (W : Row) : Row := fun j => if j < n then V j else W j
