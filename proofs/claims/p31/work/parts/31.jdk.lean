theorem mm_w1 : Cond.static Lib.Math.max.name ∈ WA := wa_t 366 rfl rfl
theorem mm_w2 : Cond.code Lib.Math.max.name Lib.Math.max.code 2 (some .int) ∈ WA := wa_t 367 rfl rfl
theorem mm_w3 : Cond.initialized "java/lang/Math" ∈ WA := wa_t 9 rfl rfl
theorem mm_w4 : Cond.static Lib.Math.min.name ∈ WA := wa_t 247 rfl rfl
theorem mm_w5 : Cond.code Lib.Math.min.name Lib.Math.min.code 2 (some .int) ∈ WA := wa_t 248 rfl rfl
theorem x_mmax {sc : cS} {d : Nat} {μ : Md} {pc idx : Nat} {ls : List (Option Value)} {st : List Value} {AH AH' : List AC} {r : Option Value} {x y : Int32} (hw : Cond.methodLink μ.2.1.cls idx Lib.Math.max.name ∈ WA) (hd : decode μ.1 pc = .ok (.invokestatic idx, 3)) (hdd : 1 ≤ d) (hst : (st.map fun v => v.category).sum ≤ 8) (k : X sc d μ (pc + 3) ls (.int (if x < y then y else x) :: st) AH r AH') : X sc d μ pc ls (.int y :: .int x :: st) AH r AH' := by
  refine ⟨k.1, fun G p l e R s m args below meth c H locs cells slots Q lsA b ad A H0 n0 s0 hC => ?_⟩
  have hts := hC.1.2.2.2.2.1
  have h1 := k.1
  obtain ⟨f1, f2, f3, f4⟩ := hC.2.2.2.2.2.2.1
  have f5 := hC.2.2.2.2.2.1.1
  have f6 := hC.2.2.2.2.2.1.2
  exact va_mmax hC.1.1 hC.1.2.1 (hC.1.2.2.1.trans hC.2.1.1.symm) hC.1.2.2.2.1 (hts _ hw) (hts _ mm_w1) (hts _ mm_w3) (hts _ mm_w2) (by omega) (by rw [cat_map]; omega) (by omega) (by omega) hd (k.2 G p l e R s m args below meth c H locs cells slots Q lsA b ad A H0 n0 s0 hC)
theorem x_mmin {sc : cS} {d : Nat} {μ : Md} {pc idx : Nat} {ls : List (Option Value)} {st : List Value} {AH AH' : List AC} {r : Option Value} {x y : Int32} (hw : Cond.methodLink μ.2.1.cls idx Lib.Math.min.name ∈ WA) (hd : decode μ.1 pc = .ok (.invokestatic idx, 3)) (hdd : 1 ≤ d) (hst : (st.map fun v => v.category).sum ≤ 8) (k : X sc d μ (pc + 3) ls (.int (if y < x then y else x) :: st) AH r AH') : X sc d μ pc ls (.int y :: .int x :: st) AH r AH' := by
  refine ⟨k.1, fun G p l e R s m args below meth c H locs cells slots Q lsA b ad A H0 n0 s0 hC => ?_⟩
  have hts := hC.1.2.2.2.2.1
  have h1 := k.1
  obtain ⟨f1, f2, f3, f4⟩ := hC.2.2.2.2.2.2.1
  have f5 := hC.2.2.2.2.2.1.1
  have f6 := hC.2.2.2.2.2.1.2
  exact va_mmin hC.1.1 hC.1.2.1 (hC.1.2.2.1.trans hC.2.1.1.symm) hC.1.2.2.2.1 (hts _ hw) (hts _ mm_w4) (hts _ mm_w3) (hts _ mm_w5) (by omega) (by rw [cat_map]; omega) (by omega) (by omega) hd (k.2 G p l e R s m args below meth c H locs cells slots Q lsA b ad A H0 n0 s0 hC)
theorem x_iconstv {sc : cS} {d : Nat} {μ : Md} {pc : Nat} {ls : List (Option Value)} {st : List Value} {AH AH' : List AC} {r : Option Value} {n : Int} {v : Int32} (hd : decode μ.1 pc = .ok (.iconst n, 1)) (hv : Int32.ofInt n = v) (k : X sc d μ (pc + 1) ls (.int v :: st) AH r AH') : X sc d μ pc ls st AH r AH' := by
  subst hv
  exact x_iconst hd k
theorem x_bipushv {sc : cS} {d : Nat} {μ : Md} {pc : Nat} {ls : List (Option Value)} {st : List Value} {AH AH' : List AC} {r : Option Value} {n : Int} {v : Int32} (hd : decode μ.1 pc = .ok (.bipush n, 2)) (hv : (Int8.ofInt n).toInt32 = v) (k : X sc d μ (pc + 2) ls (.int v :: st) AH r AH') : X sc d μ pc ls st AH r AH' := by
  subst hv
  exact x_bipush hd k
theorem x_sipushv {sc : cS} {d : Nat} {μ : Md} {pc : Nat} {ls : List (Option Value)} {st : List Value} {AH AH' : List AC} {r : Option Value} {n : Int} {v : Int32} (hd : decode μ.1 pc = .ok (.sipush n, 3)) (hv : (Int16.ofInt n).toInt32 = v) (k : X sc d μ (pc + 3) ls (.int v :: st) AH r AH') : X sc d μ pc ls st AH r AH' := by
  subst hv
  exact x_sipush hd k
theorem x_iincv {sc : cS} {d : Nat} {μ : Md} {pc : Nat} {ls : List (Option Value)} {st : List Value} {AH AH' : List AC} {r : Option Value} {i : Nat} {n : Int} {x v : Int32} (hd : decode μ.1 pc = .ok (.iinc i n, 3)) (hv : ls[i]? = some (some (.int x))) (hi : i < μ.2.2.1) (hn : noD ls i = true) (he : Int32.ofInt n = v) (k : X sc d μ (pc + 3) (ls.set i (some (.int (x + v)))) st AH r AH') : X sc d μ pc ls st AH r AH' := by
  subst he
  exact x_iinc hd hv hi hn k
