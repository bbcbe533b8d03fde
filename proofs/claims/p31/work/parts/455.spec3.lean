theorem ixN {j : Nat} (h : j < 2 ^ 31) : (nI j).toNatClampNeg = j ∧ ¬ nI j < 0 := ⟨nI_clamp h, nI_pos h⟩
theorem vpin_of {i : Int32} {j n : Nat} (hi : i.toNatClampNeg = j ∧ ¬ i < 0) (hj : j < n) : vp_in i n := fun q => q.elim hi.2 (fun z => by rw [hi.1] at z; omega)
section YN
variable {d : Nat} {μ : Md} {pc : Nat} {ls : List (Option Value)} {st : List Value} {M M' : Mem} {r : Option Value}
theorem y_ialdn {a n j : Nat} {i : Int32} (hd : decode μ.1 pc = .ok (.iaload, 1)) (ha : a < NC) (hs : SH a = .inr (.inl (0, n))) (hi : i.toNatClampNeg = j ∧ ¬ i < 0) (hj : j < n) (k : Y d μ (pc + 1) ls (.int (M a j) :: st) M r M') : Y d μ pc ls (.int i :: .ref a :: st) M r M' :=
  y_iald hd ha hs (vpin_of hi hj) (by rw [hi.1]; exact k)
theorem y_baldn {a n j : Nat} {i : Int32} (hd : decode μ.1 pc = .ok (.baload, 1)) (ha : a < NC) (hs : SH a = .inr (.inl (1, n))) (hi : i.toNatClampNeg = j ∧ ¬ i < 0) (hj : j < n) (k : Y d μ (pc + 1) ls (.int (M a j) :: st) M r M') : Y d μ pc ls (.int i :: .ref a :: st) M r M' :=
  y_bald hd ha hs (vpin_of hi hj) (by rw [hi.1]; exact k)
theorem y_caldn {a n j : Nat} {i : Int32} (hd : decode μ.1 pc = .ok (.caload, 1)) (ha : a < NC) (hs : SH a = .inr (.inl (2, n))) (hi : i.toNatClampNeg = j ∧ ¬ i < 0) (hj : j < n) (k : Y d μ (pc + 1) ls (.int (M a j) :: st) M r M') : Y d μ pc ls (.int i :: .ref a :: st) M r M' :=
  y_cald hd ha hs (vpin_of hi hj) (by rw [hi.1]; exact k)
theorem y_iastn {a n j : Nat} {i x : Int32} (hd : decode μ.1 pc = .ok (.iastore, 1)) (ha : a < NC) (hs : SH a = .inr (.inl (0, n))) (hi : i.toNatClampNeg = j ∧ ¬ i < 0) (hj : j < n) (k : Y d μ (pc + 1) ls st (updM M a j x) r M') : Y d μ pc ls (.int x :: .int i :: .ref a :: st) M r M' :=
  y_iast hd ha hs (vpin_of hi hj) (by rw [hi.1]; exact k)
theorem y_bastn {a n j : Nat} {i x : Int32} (hd : decode μ.1 pc = .ok (.bastore, 1)) (ha : a < NC) (hs : SH a = .inr (.inl (1, n))) (hi : i.toNatClampNeg = j ∧ ¬ i < 0) (hj : j < n) (k : Y d μ (pc + 1) ls st (updM M a j (x &&& 1)) r M') : Y d μ pc ls (.int x :: .int i :: .ref a :: st) M r M' :=
  y_bast hd ha hs (vpin_of hi hj) (by rw [hi.1]; exact k)
theorem y_castn {a n j : Nat} {i x : Int32} (hd : decode μ.1 pc = .ok (.castore, 1)) (ha : a < NC) (hs : SH a = .inr (.inl (2, n))) (hi : i.toNatClampNeg = j ∧ ¬ i < 0) (hj : j < n) (k : Y d μ (pc + 1) ls st (updM M a j (vp_nar .char x)) r M') : Y d μ pc ls (.int x :: .int i :: .ref a :: st) M r M' :=
  y_cast hd ha hs (vpin_of hi hj) (by rw [hi.1]; exact k)
end YN
