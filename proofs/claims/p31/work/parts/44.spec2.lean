def ind (p : Prop) [Decidable p] : Int32 := if p then 1 else 0
def bits7 (x : Int32) : Int32 := sumF (fun k => x >>> (nI k &&& 31) &&& 1) 7
theorem bc_bits {x : Int32} (h : vp_in x 128) : bc x = bits7 x := by
  obtain ⟨j, hj, rfl⟩ := vp_in_of h (by decide)
  have h1 : ∀ j : Fin 128, bc (nI j.val) = bits7 (nI j.val) := by decide +kernel
  exact h1 ⟨j, hj⟩
def needsV (V : Row) : Int32 := sumF (fun t => bits7 (V (23 + 5 * t))) (nT V)
def waresV (V : Row) (k : Int32) : Int32 := sumF (fun t => ind (V (24 + 5 * t) = k)) (nT V)
def swaresV (V : Row) (k : Int32) : Int32 := sumF (fun t => ind (V (24 + 5 * t) = k ∧ 0 < dli V t)) (nT V)
def soundV (V : Row) : Int32 := sumF (fun t => ind (0 < dli V t)) (nT V)
def spoiltV (V : Row) : Int32 := sumF (fun t => ind (¬ 0 < dli V t)) (nT V)
def daysV (V : Row) : Int32 := sumF (fun t => dl V t) (nT V)
def wantV (V : Row) (k : Int32) : Int32 := sumF (fun t => ind (V (23 + 5 * t) >>> (k &&& 31) &&& 1 = 1)) (nT V)
def makeV (V : Row) (k : Int32) : Int32 := sumF (fun t => ind (V (22 + 5 * t) = k)) (nT V)
def stuckV (V : Row) : Int32 := sumF (fun t => ind (¬ V (23 + 5 * t) = 0 ∧ gv V t = 0)) (nT V)
