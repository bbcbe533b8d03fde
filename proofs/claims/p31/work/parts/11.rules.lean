theorem x_iconst {sc : cS} {d : Nat} {μ : Md} {pc : Nat} {ls : List (Option Value)} {st : List Value} {AH AH' : List AC} {r : Option Value} {n : Int} (hd : decode μ.1 pc = .ok (.iconst n, 1)) (k : X sc d μ (pc + 1) ls (.int (Int32.ofInt n) :: st) AH r AH') : X sc d μ pc ls (st) AH r AH' := ⟨k.1, fun G p l e R s m args below meth c H locs cells slots Q lsA b ad A H0 n0 s0 hC => lv_iconst hC.1.1 hC.1.2.1 hd rfl (k.2 G p l e R s m args below meth c H locs cells slots Q lsA b ad A H0 n0 s0 hC)⟩
theorem x_bipush {sc : cS} {d : Nat} {μ : Md} {pc : Nat} {ls : List (Option Value)} {st : List Value} {AH AH' : List AC} {r : Option Value} {n : Int} (hd : decode μ.1 pc = .ok (.bipush n, 2)) (k : X sc d μ (pc + 2) ls (.int (Int8.ofInt n).toInt32 :: st) AH r AH') : X sc d μ pc ls (st) AH r AH' := ⟨k.1, fun G p l e R s m args below meth c H locs cells slots Q lsA b ad A H0 n0 s0 hC => lv_bipush hC.1.1 hC.1.2.1 hd rfl (k.2 G p l e R s m args below meth c H locs cells slots Q lsA b ad A H0 n0 s0 hC)⟩
theorem x_sipush {sc : cS} {d : Nat} {μ : Md} {pc : Nat} {ls : List (Option Value)} {st : List Value} {AH AH' : List AC} {r : Option Value} {n : Int} (hd : decode μ.1 pc = .ok (.sipush n, 3)) (k : X sc d μ (pc + 3) ls (.int (Int16.ofInt n).toInt32 :: st) AH r AH') : X sc d μ pc ls (st) AH r AH' := ⟨k.1, fun G p l e R s m args below meth c H locs cells slots Q lsA b ad A H0 n0 s0 hC => lv_sipush hC.1.1 hC.1.2.1 hd rfl (k.2 G p l e R s m args below meth c H locs cells slots Q lsA b ad A H0 n0 s0 hC)⟩
theorem x_iadd {sc : cS} {d : Nat} {μ : Md} {pc : Nat} {ls : List (Option Value)} {st : List Value} {AH AH' : List AC} {r : Option Value} {x y : Int32} (hd : decode μ.1 pc = .ok (.iadd, 1)) (k : X sc d μ (pc + 1) ls (.int (x + y) :: st) AH r AH') : X sc d μ pc ls (.int y :: .int x :: st) AH r AH' := ⟨k.1, fun G p l e R s m args below meth c H locs cells slots Q lsA b ad A H0 n0 s0 hC => lv_iadd hC.1.1 hC.1.2.1 hd (k.2 G p l e R s m args below meth c H locs cells slots Q lsA b ad A H0 n0 s0 hC)⟩
theorem x_isub {sc : cS} {d : Nat} {μ : Md} {pc : Nat} {ls : List (Option Value)} {st : List Value} {AH AH' : List AC} {r : Option Value} {x y : Int32} (hd : decode μ.1 pc = .ok (.isub, 1)) (k : X sc d μ (pc + 1) ls (.int (x - y) :: st) AH r AH') : X sc d μ pc ls (.int y :: .int x :: st) AH r AH' := ⟨k.1, fun G p l e R s m args below meth c H locs cells slots Q lsA b ad A H0 n0 s0 hC => lv_isub hC.1.1 hC.1.2.1 hd (k.2 G p l e R s m args below meth c H locs cells slots Q lsA b ad A H0 n0 s0 hC)⟩
theorem x_imul {sc : cS} {d : Nat} {μ : Md} {pc : Nat} {ls : List (Option Value)} {st : List Value} {AH AH' : List AC} {r : Option Value} {x y : Int32} (hd : decode μ.1 pc = .ok (.imul, 1)) (k : X sc d μ (pc + 1) ls (.int (x * y) :: st) AH r AH') : X sc d μ pc ls (.int y :: .int x :: st) AH r AH' := ⟨k.1, fun G p l e R s m args below meth c H locs cells slots Q lsA b ad A H0 n0 s0 hC => lv_imul hC.1.1 hC.1.2.1 hd (k.2 G p l e R s m args below meth c H locs cells slots Q lsA b ad A H0 n0 s0 hC)⟩
theorem x_iand {sc : cS} {d : Nat} {μ : Md} {pc : Nat} {ls : List (Option Value)} {st : List Value} {AH AH' : List AC} {r : Option Value} {x y : Int32} (hd : decode μ.1 pc = .ok (.iand, 1)) (k : X sc d μ (pc + 1) ls (.int (x &&& y) :: st) AH r AH') : X sc d μ pc ls (.int y :: .int x :: st) AH r AH' := ⟨k.1, fun G p l e R s m args below meth c H locs cells slots Q lsA b ad A H0 n0 s0 hC => lv_iand hC.1.1 hC.1.2.1 hd (k.2 G p l e R s m args below meth c H locs cells slots Q lsA b ad A H0 n0 s0 hC)⟩
theorem x_ior {sc : cS} {d : Nat} {μ : Md} {pc : Nat} {ls : List (Option Value)} {st : List Value} {AH AH' : List AC} {r : Option Value} {x y : Int32} (hd : decode μ.1 pc = .ok (.ior, 1)) (k : X sc d μ (pc + 1) ls (.int (x ||| y) :: st) AH r AH') : X sc d μ pc ls (.int y :: .int x :: st) AH r AH' := ⟨k.1, fun G p l e R s m args below meth c H locs cells slots Q lsA b ad A H0 n0 s0 hC => lv_ior hC.1.1 hC.1.2.1 hd (k.2 G p l e R s m args below meth c H locs cells slots Q lsA b ad A H0 n0 s0 hC)⟩
theorem x_ixor {sc : cS} {d : Nat} {μ : Md} {pc : Nat} {ls : List (Option Value)} {st : List Value} {AH AH' : List AC} {r : Option Value} {x y : Int32} (hd : decode μ.1 pc = .ok (.ixor, 1)) (k : X sc d μ (pc + 1) ls (.int (x ^^^ y) :: st) AH r AH') : X sc d μ pc ls (.int y :: .int x :: st) AH r AH' := ⟨k.1, fun G p l e R s m args below meth c H locs cells slots Q lsA b ad A H0 n0 s0 hC => lv_ixor hC.1.1 hC.1.2.1 hd (k.2 G p l e R s m args below meth c H locs cells slots Q lsA b ad A H0 n0 s0 hC)⟩
theorem x_ishl {sc : cS} {d : Nat} {μ : Md} {pc : Nat} {ls : List (Option Value)} {st : List Value} {AH AH' : List AC} {r : Option Value} {x y : Int32} (hd : decode μ.1 pc = .ok (.ishl, 1)) (k : X sc d μ (pc + 1) ls (.int (x <<< (y &&& 31)) :: st) AH r AH') : X sc d μ pc ls (.int y :: .int x :: st) AH r AH' := ⟨k.1, fun G p l e R s m args below meth c H locs cells slots Q lsA b ad A H0 n0 s0 hC => lv_ishl hC.1.1 hC.1.2.1 hd (k.2 G p l e R s m args below meth c H locs cells slots Q lsA b ad A H0 n0 s0 hC)⟩
theorem x_ishr {sc : cS} {d : Nat} {μ : Md} {pc : Nat} {ls : List (Option Value)} {st : List Value} {AH AH' : List AC} {r : Option Value} {x y : Int32} (hd : decode μ.1 pc = .ok (.ishr, 1)) (k : X sc d μ (pc + 1) ls (.int (x >>> (y &&& 31)) :: st) AH r AH') : X sc d μ pc ls (.int y :: .int x :: st) AH r AH' := ⟨k.1, fun G p l e R s m args below meth c H locs cells slots Q lsA b ad A H0 n0 s0 hC => lv_ishr hC.1.1 hC.1.2.1 hd (k.2 G p l e R s m args below meth c H locs cells slots Q lsA b ad A H0 n0 s0 hC)⟩
theorem x_iushr {sc : cS} {d : Nat} {μ : Md} {pc : Nat} {ls : List (Option Value)} {st : List Value} {AH AH' : List AC} {r : Option Value} {x y : Int32} (hd : decode μ.1 pc = .ok (.iushr, 1)) (k : X sc d μ (pc + 1) ls (.int (x.toUInt32 >>> (y.toUInt32 &&& Int32.toUInt32 31)).toInt32 :: st) AH r AH') : X sc d μ pc ls (.int y :: .int x :: st) AH r AH' := ⟨k.1, fun G p l e R s m args below meth c H locs cells slots Q lsA b ad A H0 n0 s0 hC => lv_iushr hC.1.1 hC.1.2.1 hd rfl (k.2 G p l e R s m args below meth c H locs cells slots Q lsA b ad A H0 n0 s0 hC)⟩
theorem x_irem {sc : cS} {d : Nat} {μ : Md} {pc : Nat} {ls : List (Option Value)} {st : List Value} {AH AH' : List AC} {r : Option Value} {x y : Int32} (hy : ¬ y = 0) (hd : decode μ.1 pc = .ok (.irem, 1)) (k : X sc d μ (pc + 1) ls (.int (x - x / y * y) :: st) AH r AH') : X sc d μ pc ls (.int y :: .int x :: st) AH r AH' := ⟨k.1, fun G p l e R s m args below meth c H locs cells slots Q lsA b ad A H0 n0 s0 hC => lv_irem hC.1.1 hC.1.2.1 hd hy (k.2 G p l e R s m args below meth c H locs cells slots Q lsA b ad A H0 n0 s0 hC)⟩
theorem x_i2c {sc : cS} {d : Nat} {μ : Md} {pc : Nat} {ls : List (Option Value)} {st : List Value} {AH AH' : List AC} {r : Option Value} {x : Int32} (hd : decode μ.1 pc = .ok (.i2c, 1)) (k : X sc d μ (pc + 1) ls (.int (x.toUInt32 % 65536).toInt32 :: st) AH r AH') : X sc d μ pc ls (.int x :: st) AH r AH' := ⟨k.1, fun G p l e R s m args below meth c H locs cells slots Q lsA b ad A H0 n0 s0 hC => lv_i2c hC.1.1 hC.1.2.1 hd rfl (k.2 G p l e R s m args below meth c H locs cells slots Q lsA b ad A H0 n0 s0 hC)⟩
theorem x_i2d {sc : cS} {d : Nat} {μ : Md} {pc : Nat} {ls : List (Option Value)} {st : List Value} {AH AH' : List AC} {r : Option Value} {x : Int32} (hd : decode μ.1 pc = .ok (.i2d, 1)) (k : X sc d μ (pc + 1) ls (.double (FP.i2d x) :: st) AH r AH') : X sc d μ pc ls (.int x :: st) AH r AH' := ⟨k.1, fun G p l e R s m args below meth c H locs cells slots Q lsA b ad A H0 n0 s0 hC => lv_i2d hC.1.1 hC.1.2.1 hd (k.2 G p l e R s m args below meth c H locs cells slots Q lsA b ad A H0 n0 s0 hC)⟩
theorem x_ddiv {sc : cS} {d : Nat} {μ : Md} {pc : Nat} {ls : List (Option Value)} {st : List Value} {AH AH' : List AC} {r : Option Value} {x y : UInt64} (hn : vf_n64 (FP.ddiv x y)) (hd : decode μ.1 pc = .ok (.ddiv, 1)) (k : X sc d μ (pc + 1) ls (.double (FP.ddiv x y) :: st) AH r AH') : X sc d μ pc ls (.double y :: .double x :: st) AH r AH' := ⟨k.1, fun G p l e R s m args below meth c H locs cells slots Q lsA b ad A H0 n0 s0 hC => lv_ddiv hC.1.1 hC.1.2.1 hd hn (k.2 G p l e R s m args below meth c H locs cells slots Q lsA b ad A H0 n0 s0 hC)⟩
theorem x_dcmp {sc : cS} {d : Nat} {μ : Md} {pc : Nat} {ls : List (Option Value)} {st : List Value} {AH AH' : List AC} {r : Option Value} {x y : UInt64} {op : CmpOp} (hd : decode μ.1 pc = .ok (.dcmp op, 1)) (k : X sc d μ (pc + 1) ls (.int (Op.cmpValue (FP.dcmp x y) op) :: st) AH r AH') : X sc d μ pc ls (.double y :: .double x :: st) AH r AH' := ⟨k.1, fun G p l e R s m args below meth c H locs cells slots Q lsA b ad A H0 n0 s0 hC => lv_dcmp hC.1.1 hC.1.2.1 hd (k.2 G p l e R s m args below meth c H locs cells slots Q lsA b ad A H0 n0 s0 hC)⟩
theorem x_dup_i {sc : cS} {d : Nat} {μ : Md} {pc : Nat} {ls : List (Option Value)} {st : List Value} {AH AH' : List AC} {r : Option Value} {x : Int32} (hd : decode μ.1 pc = .ok (.dup, 1)) (k : X sc d μ (pc + 1) ls (.int x :: .int x :: st) AH r AH') : X sc d μ pc ls (.int x :: st) AH r AH' := ⟨k.1, fun G p l e R s m args below meth c H locs cells slots Q lsA b ad A H0 n0 s0 hC => lv_dup hC.1.1 hC.1.2.1 hd rfl (k.2 G p l e R s m args below meth c H locs cells slots Q lsA b ad A H0 n0 s0 hC)⟩
theorem x_dup_r {sc : cS} {d : Nat} {μ : Md} {pc : Nat} {ls : List (Option Value)} {st : List Value} {AH AH' : List AC} {r : Option Value} {o : Nat} (hd : decode μ.1 pc = .ok (.dup, 1)) (k : X sc d μ (pc + 1) ls (.ref o :: .ref o :: st) AH r AH') : X sc d μ pc ls (.ref o :: st) AH r AH' := ⟨k.1, fun G p l e R s m args below meth c H locs cells slots Q lsA b ad A H0 n0 s0 hC => lv_dup hC.1.1 hC.1.2.1 hd rfl (k.2 G p l e R s m args below meth c H locs cells slots Q lsA b ad A H0 n0 s0 hC)⟩
theorem x_dup2_ir {sc : cS} {d : Nat} {μ : Md} {pc : Nat} {ls : List (Option Value)} {st : List Value} {AH AH' : List AC} {r : Option Value} {x : Int32} {o : Nat} (hd : decode μ.1 pc = .ok (.dup2, 1)) (k : X sc d μ (pc + 1) ls (.int x :: .ref o :: .int x :: .ref o :: st) AH r AH') : X sc d μ pc ls (.int x :: .ref o :: st) AH r AH' := ⟨k.1, fun G p l e R s m args below meth c H locs cells slots Q lsA b ad A H0 n0 s0 hC => lv_dup2_11 hC.1.1 hC.1.2.1 hd rfl rfl (k.2 G p l e R s m args below meth c H locs cells slots Q lsA b ad A H0 n0 s0 hC)⟩
theorem x_pop_i {sc : cS} {d : Nat} {μ : Md} {pc : Nat} {ls : List (Option Value)} {st : List Value} {AH AH' : List AC} {r : Option Value} {x : Int32} (hd : decode μ.1 pc = .ok (.pop, 1)) (k : X sc d μ (pc + 1) ls (st) AH r AH') : X sc d μ pc ls (.int x :: st) AH r AH' := ⟨k.1, fun G p l e R s m args below meth c H locs cells slots Q lsA b ad A H0 n0 s0 hC => lv_pop hC.1.1 hC.1.2.1 hd rfl (k.2 G p l e R s m args below meth c H locs cells slots Q lsA b ad A H0 n0 s0 hC)⟩
theorem x_aconst_null {sc : cS} {d : Nat} {μ : Md} {pc : Nat} {ls : List (Option Value)} {st : List Value} {AH AH' : List AC} {r : Option Value}  (hd : decode μ.1 pc = .ok (.aconst_null, 1)) (k : X sc d μ (pc + 1) ls (.null :: st) AH r AH') : X sc d μ pc ls (st) AH r AH' := ⟨k.1, fun G p l e R s m args below meth c H locs cells slots Q lsA b ad A H0 n0 s0 hC => lv_null hC.1.1 hC.1.2.1 hd (k.2 G p l e R s m args below meth c H locs cells slots Q lsA b ad A H0 n0 s0 hC)⟩
theorem x_iload_n {sc : cS} {d : Nat} {μ : Md} {pc : Nat} {ls : List (Option Value)} {st : List Value} {AH AH' : List AC} {r : Option Value} {i : Fin 4} {x : Int32} (hd : decode μ.1 pc = .ok (.iload_n i, 1)) (hv : ls[(i : Nat)]? = some (some (.int x))) (k : X sc d μ (pc + 1) ls (.int x :: st) AH r AH') : X sc d μ pc ls st AH r AH' := ⟨k.1, fun G p l e R s m args below meth c H locs cells slots Q lsA b ad A H0 n0 s0 hC => lv_iload_n hC.1.1 hC.1.2.1 hd rfl (hC.2.1.2.2 _ _ hv) (k.2 G p l e R s m args below meth c H locs cells slots Q lsA b ad A H0 n0 s0 hC)⟩
theorem x_iload {sc : cS} {d : Nat} {μ : Md} {pc : Nat} {ls : List (Option Value)} {st : List Value} {AH AH' : List AC} {r : Option Value} {i : Nat} {x : Int32} (hd : decode μ.1 pc = .ok (.iload i, 2)) (hv : ls[i]? = some (some (.int x))) (k : X sc d μ (pc + 2) ls (.int x :: st) AH r AH') : X sc d μ pc ls st AH r AH' := ⟨k.1, fun G p l e R s m args below meth c H locs cells slots Q lsA b ad A H0 n0 s0 hC => lv_iload hC.1.1 hC.1.2.1 hd (hC.2.1.2.2 _ _ hv) (k.2 G p l e R s m args below meth c H locs cells slots Q lsA b ad A H0 n0 s0 hC)⟩
theorem x_dload {sc : cS} {d : Nat} {μ : Md} {pc : Nat} {ls : List (Option Value)} {st : List Value} {AH AH' : List AC} {r : Option Value} {i : Nat} {x : UInt64} (hd : decode μ.1 pc = .ok (.dload i, 2)) (hv : ls[i]? = some (some (.double x))) (k : X sc d μ (pc + 2) ls (.double x :: st) AH r AH') : X sc d μ pc ls st AH r AH' := ⟨k.1, fun G p l e R s m args below meth c H locs cells slots Q lsA b ad A H0 n0 s0 hC => lv_dload hC.1.1 hC.1.2.1 hd (hC.2.1.2.2 _ _ hv) (k.2 G p l e R s m args below meth c H locs cells slots Q lsA b ad A H0 n0 s0 hC)⟩
theorem x_aload_n {sc : cS} {d : Nat} {μ : Md} {pc : Nat} {ls : List (Option Value)} {st : List Value} {AH AH' : List AC} {r : Option Value} {i : Fin 4} {o : Nat} (hd : decode μ.1 pc = .ok (.aload_n i, 1)) (hv : ls[(i : Nat)]? = some (some (.ref o))) (k : X sc d μ (pc + 1) ls (.ref o :: st) AH r AH') : X sc d μ pc ls st AH r AH' := ⟨k.1, fun G p l e R s m args below meth c H locs cells slots Q lsA b ad A H0 n0 s0 hC => lv_aload_n hC.1.1 hC.1.2.1 hd rfl (hC.2.1.2.2 _ _ hv) (k.2 G p l e R s m args below meth c H locs cells slots Q lsA b ad A H0 n0 s0 hC)⟩
def noD (ls : List (Option Value)) (i : Nat) : Bool := match i with
  | 0 => true
  | j + 1 => match ls[j]? with
    | some (some v) => v.category != 2
    | _ => true
def asl (b : Nat) (ad : List Nat) (ls : List (Option Value)) : List (Nat × Value) := ls.zipIdx.filterMap (fun q => q.1.map (fun v => (q.2, cv b ad v)))
theorem asl_mem {b : Nat} {ad : List Nat} {ls : List (Option Value)} {j : Nat} {w : Value} : (j, w) ∈ asl b ad ls ↔ ∃ v, ls[j]? = some (some v) ∧ w = cv b ad v := by
  simp only [asl, List.mem_filterMap]
  constructor
  · rintro ⟨⟨o, i⟩, h1, h2⟩
    have h3 := List.mem_zipIdx_iff_getElem?.mp h1
    cases o with
    | none => cases h2
    | some v =>
      simp only [Option.map_some, Option.some.injEq, Prod.mk.injEq] at h2
      obtain ⟨rfl, rfl⟩ := h2
      exact ⟨v, h3, rfl⟩
  · rintro ⟨v, h1, rfl⟩
    exact ⟨(some v, j), List.mem_zipIdx_iff_getElem?.mpr h1, rfl⟩
theorem lsOK_has {lsA : Array Slot} {nL b : Nat} {ad : List Nat} {ls : List (Option Value)} (h : lsOK lsA nL b ad ls) : lv_has lsA nL (asl b ad ls) := by
  refine ⟨h.1, h.2.1, fun q hq => ?_⟩
  obtain ⟨j, w⟩ := q
  obtain ⟨v, h1, rfl⟩ := asl_mem.mp hq
  exact h.2.2 j v h1
theorem lsOK_set {ls' : Array Slot} {nL b i : Nat} {ad : List Nat} {ls : List (Option Value)} {v w : Value} (hw : cv b ad v = w) (hn : noD ls i = true) (h : lv_has ls' nL ((i, w) :: (asl b ad ls).filter (fun q => !(q.1 == i) && !(q.1 + 1 == i && q.2.category == 2)))) : lsOK ls' nL b ad (ls.set i (some v)) := by
  refine ⟨h.1, h.2.1, fun j u hu => ?_⟩
  subst hw
  rw [List.getElem?_set] at hu
  by_cases hj : i = j
  · subst hj
    rw [if_pos rfl] at hu
    split at hu
    · cases hu
      exact h.2.2 (i, cv b ad v) List.mem_cons_self
    · cases hu
  · rw [if_neg hj] at hu
    refine h.2.2 (j, cv b ad u) (List.mem_cons_of_mem _ (List.mem_filter.mpr ⟨asl_mem.mpr ⟨u, hu, rfl⟩, ?_⟩))
    have h1 : (j == i) = false := by simp [Ne.symm hj]
    by_cases h2 : j + 1 = i
    · subst h2
      simp only [noD, hu, bne_iff_ne, ne_eq] at hn
      simp [h1, cv_cat, hn]
    · simp [h1, h2]
theorem lsOK_set2 {ls' : Array Slot} {nL b i : Nat} {ad : List Nat} {ls : List (Option Value)} {v w : Value} (hw : cv b ad v = w) (hn : noD ls i = true) (h : lv_has ls' nL ((i, w) :: (asl b ad ls).filter (fun q => !(q.1 == i) && (!(q.1 == i + 1) && !(q.1 + 1 == i && q.2.category == 2))))) : lsOK ls' nL b ad ((ls.set i (some v)).set (i + 1) none) := by
  refine ⟨h.1, h.2.1, fun j u hu => ?_⟩
  subst hw
  rw [List.getElem?_set] at hu
  by_cases hj1 : i + 1 = j
  · rw [if_pos hj1] at hu
    split at hu <;> cases hu
  rw [if_neg hj1, List.getElem?_set] at hu
  by_cases hj : i = j
  · subst hj
    rw [if_pos rfl] at hu
    split at hu
    · cases hu
      exact h.2.2 (i, cv b ad v) List.mem_cons_self
    · cases hu
  · rw [if_neg hj] at hu
    refine h.2.2 (j, cv b ad u) (List.mem_cons_of_mem _ (List.mem_filter.mpr ⟨asl_mem.mpr ⟨u, hu, rfl⟩, ?_⟩))
    have h1 : (j == i) = false := by simp [Ne.symm hj]
    have h3 : (j == i + 1) = false := by simp [Ne.symm hj1]
    by_cases h2 : j + 1 = i
    · subst h2
      have h4 : ¬ j = j + 1 + 1 := by omega
      simp only [noD, hu, bne_iff_ne, ne_eq] at hn
      simp [h1, h3, h4, cv_cat, hn]
    · simp [h1, h2, h3]
theorem Cx_ls {sc : cS} {G : cG} {μ : Md} {d : Nat} {ls ls' : List (Option Value)} {AH : List AC} {r : Option Value} {AH' : List AC} {p : Program} {l : Launch} {e : Env} {R : Room} {s : State} {m : MethodId} {args : Array Value} {below : List Frame} {meth : Method} {c : Code} {H : Heap} {locs : List Loc} {cells slots : Nat} {Q : State → Prop} {lsA lsB : Array Slot} {b : Nat} {ad : List Nat} {A : Nat → Prop} {H0 : Heap} {n0 s0 : Nat} (hC : Cx sc G μ d ls AH r AH' p l e R s m args below meth c H locs cells slots Q lsA b ad A H0 n0 s0) (h : lsOK lsB μ.2.2.1 b ad ls') : Cx sc G μ d ls' AH r AH' p l e R s m args below meth c H locs cells slots Q lsB b ad A H0 n0 s0 := ⟨hC.1, h, hC.2.2⟩
theorem x_istore_n {sc : cS} {d : Nat} {μ : Md} {pc : Nat} {ls : List (Option Value)} {st : List Value} {AH AH' : List AC} {r : Option Value} {i : Fin 4} {x : Int32} (hd : decode μ.1 pc = .ok (.istore_n i, 1)) (hi : (i : Nat) < μ.2.2.1) (hn : noD ls (i : Nat) = true) (k : X sc d μ (pc + 1) (ls.set (i : Nat) (some (.int x))) st AH r AH') : X sc d μ pc ls (.int x :: st) AH r AH' := ⟨k.1, fun G p l e R s m args below meth c H locs cells slots Q lsA b ad A H0 n0 s0 hC => lv_istore_n hC.1.1 hC.1.2.1 hd rfl (lsOK_has hC.2.1) hi rfl (fun ls2 h2 => k.2 G p l e R s m args below meth c H locs cells slots Q ls2 b ad A H0 n0 s0 (Cx_ls hC (lsOK_set rfl hn h2)))⟩
theorem x_istore {sc : cS} {d : Nat} {μ : Md} {pc : Nat} {ls : List (Option Value)} {st : List Value} {AH AH' : List AC} {r : Option Value} {i : Nat} {x : Int32} (hd : decode μ.1 pc = .ok (.istore i, 2)) (hi : i < μ.2.2.1) (hn : noD ls i = true) (k : X sc d μ (pc + 2) (ls.set i (some (.int x))) st AH r AH') : X sc d μ pc ls (.int x :: st) AH r AH' := ⟨k.1, fun G p l e R s m args below meth c H locs cells slots Q lsA b ad A H0 n0 s0 hC => lv_istore hC.1.1 hC.1.2.1 hd (lsOK_has hC.2.1) hi rfl (fun ls2 h2 => k.2 G p l e R s m args below meth c H locs cells slots Q ls2 b ad A H0 n0 s0 (Cx_ls hC (lsOK_set rfl hn h2)))⟩
theorem x_astore_n {sc : cS} {d : Nat} {μ : Md} {pc : Nat} {ls : List (Option Value)} {st : List Value} {AH AH' : List AC} {r : Option Value} {i : Fin 4} {x : Nat} (hd : decode μ.1 pc = .ok (.astore_n i, 1)) (hi : (i : Nat) < μ.2.2.1) (hn : noD ls (i : Nat) = true) (k : X sc d μ (pc + 1) (ls.set (i : Nat) (some (.ref x))) st AH r AH') : X sc d μ pc ls (.ref x :: st) AH r AH' := ⟨k.1, fun G p l e R s m args below meth c H locs cells slots Q lsA b ad A H0 n0 s0 hC => lv_astore_n hC.1.1 hC.1.2.1 hd rfl (lsOK_has hC.2.1) hi rfl (fun ls2 h2 => k.2 G p l e R s m args below meth c H locs cells slots Q ls2 b ad A H0 n0 s0 (Cx_ls hC (lsOK_set rfl hn h2)))⟩
theorem x_dstore {sc : cS} {d : Nat} {μ : Md} {pc : Nat} {ls : List (Option Value)} {st : List Value} {AH AH' : List AC} {r : Option Value} {i : Nat} {x : UInt64} (hd : decode μ.1 pc = .ok (.dstore i, 2)) (hi : i + 1 < μ.2.2.1) (hn : noD ls i = true) (k : X sc d μ (pc + 2) ((ls.set i (some (.double x))).set (i + 1) none) st AH r AH') : X sc d μ pc ls (.double x :: st) AH r AH' := ⟨k.1, fun G p l e R s m args below meth c H locs cells slots Q lsA b ad A H0 n0 s0 hC => lv_dstore hC.1.1 hC.1.2.1 hd (lsOK_has hC.2.1) hi rfl (fun ls2 h2 => k.2 G p l e R s m args below meth c H locs cells slots Q ls2 b ad A H0 n0 s0 (Cx_ls hC (lsOK_set2 rfl hn h2)))⟩
theorem x_iinc {sc : cS} {d : Nat} {μ : Md} {pc : Nat} {ls : List (Option Value)} {st : List Value} {AH AH' : List AC} {r : Option Value} {i : Nat} {n : Int} {x : Int32} (hd : decode μ.1 pc = .ok (.iinc i n, 3)) (hv : ls[i]? = some (some (.int x))) (hi : i < μ.2.2.1) (hn : noD ls i = true) (k : X sc d μ (pc + 3) (ls.set i (some (.int (x + Int32.ofInt n)))) st AH r AH') : X sc d μ pc ls st AH r AH' := by
  refine ⟨k.1, fun G p l e R s m args below meth c H locs cells slots Q lsA b ad A H0 n0 s0 hC => ?_⟩
  have hm : (i, Value.int x) ∈ asl b ad ls := asl_mem.mpr ⟨_, hv, rfl⟩
  obtain ⟨q, hq⟩ := List.getElem?_of_mem hm
  exact lv_iinc hC.1.1 hC.1.2.1 hd (lsOK_has hC.2.1) (k := q) hq rfl hi rfl (fun ls2 h2 => k.2 G p l e R s m args below meth c H locs cells slots Q ls2 b ad A H0 n0 s0 (Cx_ls hC (lsOK_set rfl hn h2)))
theorem x_if_eq {sc : cS} {d : Nat} {μ : Md} {pc : Nat} {ls : List (Option Value)} {st : List Value} {AH AH' : List AC} {r : Option Value} {x : Int32} {off : Int} (tgt : Nat) (hd : decode μ.1 pc = .ok (.ifCond .eq off, 3)) (ht : (pc : Int) + off = (tgt : Int)) (kt : x = 0 → X sc d μ tgt ls st AH r AH') (kf : ¬ x = 0 → X sc d μ (pc + 3) ls st AH r AH') : X sc d μ pc ls (.int x :: st) AH r AH' := by
  refine ⟨?_, fun G p l e R s m args below meth c H locs cells slots Q lsA b ad A H0 n0 s0 hC => lv_if_eq hC.1.1 hC.1.2.1 hd ht (fun q => (kt q).2 G p l e R s m args below meth c H locs cells slots Q lsA b ad A H0 n0 s0 hC) (fun q => (kf q).2 G p l e R s m args below meth c H locs cells slots Q lsA b ad A H0 n0 s0 hC)⟩
  by_cases q : x = 0
  · exact (kt q).1
  · exact (kf q).1
theorem x_icmp_eq {sc : cS} {d : Nat} {μ : Md} {pc : Nat} {ls : List (Option Value)} {st : List Value} {AH AH' : List AC} {r : Option Value} {x y : Int32} {off : Int} (tgt : Nat) (hd : decode μ.1 pc = .ok (.if_icmp .eq off, 3)) (ht : (pc : Int) + off = (tgt : Int)) (kt : x = y → X sc d μ tgt ls st AH r AH') (kf : ¬ x = y → X sc d μ (pc + 3) ls st AH r AH') : X sc d μ pc ls (.int y :: .int x :: st) AH r AH' := by
  refine ⟨?_, fun G p l e R s m args below meth c H locs cells slots Q lsA b ad A H0 n0 s0 hC => lv_icmp_eq hC.1.1 hC.1.2.1 hd ht (fun q => (kt q).2 G p l e R s m args below meth c H locs cells slots Q lsA b ad A H0 n0 s0 hC) (fun q => (kf q).2 G p l e R s m args below meth c H locs cells slots Q lsA b ad A H0 n0 s0 hC)⟩
  by_cases q : x = y
  · exact (kt q).1
  · exact (kf q).1
theorem x_if_ne {sc : cS} {d : Nat} {μ : Md} {pc : Nat} {ls : List (Option Value)} {st : List Value} {AH AH' : List AC} {r : Option Value} {x : Int32} {off : Int} (tgt : Nat) (hd : decode μ.1 pc = .ok (.ifCond .ne off, 3)) (ht : (pc : Int) + off = (tgt : Int)) (kt : ¬ x = 0 → X sc d μ tgt ls st AH r AH') (kf : x = 0 → X sc d μ (pc + 3) ls st AH r AH') : X sc d μ pc ls (.int x :: st) AH r AH' := by
  refine ⟨?_, fun G p l e R s m args below meth c H locs cells slots Q lsA b ad A H0 n0 s0 hC => lv_if_ne hC.1.1 hC.1.2.1 hd ht (fun q => (kt q).2 G p l e R s m args below meth c H locs cells slots Q lsA b ad A H0 n0 s0 hC) (fun q => (kf q).2 G p l e R s m args below meth c H locs cells slots Q lsA b ad A H0 n0 s0 hC)⟩
  by_cases q : x = 0
  · exact (kf q).1
  · exact (kt q).1
theorem x_icmp_ne {sc : cS} {d : Nat} {μ : Md} {pc : Nat} {ls : List (Option Value)} {st : List Value} {AH AH' : List AC} {r : Option Value} {x y : Int32} {off : Int} (tgt : Nat) (hd : decode μ.1 pc = .ok (.if_icmp .ne off, 3)) (ht : (pc : Int) + off = (tgt : Int)) (kt : ¬ x = y → X sc d μ tgt ls st AH r AH') (kf : x = y → X sc d μ (pc + 3) ls st AH r AH') : X sc d μ pc ls (.int y :: .int x :: st) AH r AH' := by
  refine ⟨?_, fun G p l e R s m args below meth c H locs cells slots Q lsA b ad A H0 n0 s0 hC => lv_icmp_ne hC.1.1 hC.1.2.1 hd ht (fun q => (kt q).2 G p l e R s m args below meth c H locs cells slots Q lsA b ad A H0 n0 s0 hC) (fun q => (kf q).2 G p l e R s m args below meth c H locs cells slots Q lsA b ad A H0 n0 s0 hC)⟩
  by_cases q : x = y
  · exact (kf q).1
  · exact (kt q).1
theorem x_if_lt {sc : cS} {d : Nat} {μ : Md} {pc : Nat} {ls : List (Option Value)} {st : List Value} {AH AH' : List AC} {r : Option Value} {x : Int32} {off : Int} (tgt : Nat) (hd : decode μ.1 pc = .ok (.ifCond .lt off, 3)) (ht : (pc : Int) + off = (tgt : Int)) (kt : x < 0 → X sc d μ tgt ls st AH r AH') (kf : ¬ x < 0 → X sc d μ (pc + 3) ls st AH r AH') : X sc d μ pc ls (.int x :: st) AH r AH' := by
  refine ⟨?_, fun G p l e R s m args below meth c H locs cells slots Q lsA b ad A H0 n0 s0 hC => lv_if_lt hC.1.1 hC.1.2.1 hd ht (fun q => (kt q).2 G p l e R s m args below meth c H locs cells slots Q lsA b ad A H0 n0 s0 hC) (fun q => (kf q).2 G p l e R s m args below meth c H locs cells slots Q lsA b ad A H0 n0 s0 hC)⟩
  by_cases q : x < 0
  · exact (kt q).1
  · exact (kf q).1
theorem x_icmp_lt {sc : cS} {d : Nat} {μ : Md} {pc : Nat} {ls : List (Option Value)} {st : List Value} {AH AH' : List AC} {r : Option Value} {x y : Int32} {off : Int} (tgt : Nat) (hd : decode μ.1 pc = .ok (.if_icmp .lt off, 3)) (ht : (pc : Int) + off = (tgt : Int)) (kt : x < y → X sc d μ tgt ls st AH r AH') (kf : ¬ x < y → X sc d μ (pc + 3) ls st AH r AH') : X sc d μ pc ls (.int y :: .int x :: st) AH r AH' := by
  refine ⟨?_, fun G p l e R s m args below meth c H locs cells slots Q lsA b ad A H0 n0 s0 hC => lv_icmp_lt hC.1.1 hC.1.2.1 hd ht (fun q => (kt q).2 G p l e R s m args below meth c H locs cells slots Q lsA b ad A H0 n0 s0 hC) (fun q => (kf q).2 G p l e R s m args below meth c H locs cells slots Q lsA b ad A H0 n0 s0 hC)⟩
  by_cases q : x < y
  · exact (kt q).1
  · exact (kf q).1
theorem x_if_ge {sc : cS} {d : Nat} {μ : Md} {pc : Nat} {ls : List (Option Value)} {st : List Value} {AH AH' : List AC} {r : Option Value} {x : Int32} {off : Int} (tgt : Nat) (hd : decode μ.1 pc = .ok (.ifCond .ge off, 3)) (ht : (pc : Int) + off = (tgt : Int)) (kt : 0 ≤ x → X sc d μ tgt ls st AH r AH') (kf : ¬ 0 ≤ x → X sc d μ (pc + 3) ls st AH r AH') : X sc d μ pc ls (.int x :: st) AH r AH' := by
  refine ⟨?_, fun G p l e R s m args below meth c H locs cells slots Q lsA b ad A H0 n0 s0 hC => lv_if_ge hC.1.1 hC.1.2.1 hd ht (fun q => (kt q).2 G p l e R s m args below meth c H locs cells slots Q lsA b ad A H0 n0 s0 hC) (fun q => (kf q).2 G p l e R s m args below meth c H locs cells slots Q lsA b ad A H0 n0 s0 hC)⟩
  by_cases q : 0 ≤ x
  · exact (kt q).1
  · exact (kf q).1
theorem x_icmp_ge {sc : cS} {d : Nat} {μ : Md} {pc : Nat} {ls : List (Option Value)} {st : List Value} {AH AH' : List AC} {r : Option Value} {x y : Int32} {off : Int} (tgt : Nat) (hd : decode μ.1 pc = .ok (.if_icmp .ge off, 3)) (ht : (pc : Int) + off = (tgt : Int)) (kt : y ≤ x → X sc d μ tgt ls st AH r AH') (kf : ¬ y ≤ x → X sc d μ (pc + 3) ls st AH r AH') : X sc d μ pc ls (.int y :: .int x :: st) AH r AH' := by
  refine ⟨?_, fun G p l e R s m args below meth c H locs cells slots Q lsA b ad A H0 n0 s0 hC => lv_icmp_ge hC.1.1 hC.1.2.1 hd ht (fun q => (kt q).2 G p l e R s m args below meth c H locs cells slots Q lsA b ad A H0 n0 s0 hC) (fun q => (kf q).2 G p l e R s m args below meth c H locs cells slots Q lsA b ad A H0 n0 s0 hC)⟩
  by_cases q : y ≤ x
  · exact (kt q).1
  · exact (kf q).1
theorem x_if_gt {sc : cS} {d : Nat} {μ : Md} {pc : Nat} {ls : List (Option Value)} {st : List Value} {AH AH' : List AC} {r : Option Value} {x : Int32} {off : Int} (tgt : Nat) (hd : decode μ.1 pc = .ok (.ifCond .gt off, 3)) (ht : (pc : Int) + off = (tgt : Int)) (kt : 0 < x → X sc d μ tgt ls st AH r AH') (kf : ¬ 0 < x → X sc d μ (pc + 3) ls st AH r AH') : X sc d μ pc ls (.int x :: st) AH r AH' := by
  refine ⟨?_, fun G p l e R s m args below meth c H locs cells slots Q lsA b ad A H0 n0 s0 hC => lv_if_gt hC.1.1 hC.1.2.1 hd ht (fun q => (kt q).2 G p l e R s m args below meth c H locs cells slots Q lsA b ad A H0 n0 s0 hC) (fun q => (kf q).2 G p l e R s m args below meth c H locs cells slots Q lsA b ad A H0 n0 s0 hC)⟩
  by_cases q : 0 < x
  · exact (kt q).1
  · exact (kf q).1
theorem x_icmp_gt {sc : cS} {d : Nat} {μ : Md} {pc : Nat} {ls : List (Option Value)} {st : List Value} {AH AH' : List AC} {r : Option Value} {x y : Int32} {off : Int} (tgt : Nat) (hd : decode μ.1 pc = .ok (.if_icmp .gt off, 3)) (ht : (pc : Int) + off = (tgt : Int)) (kt : y < x → X sc d μ tgt ls st AH r AH') (kf : ¬ y < x → X sc d μ (pc + 3) ls st AH r AH') : X sc d μ pc ls (.int y :: .int x :: st) AH r AH' := by
  refine ⟨?_, fun G p l e R s m args below meth c H locs cells slots Q lsA b ad A H0 n0 s0 hC => lv_icmp_gt hC.1.1 hC.1.2.1 hd ht (fun q => (kt q).2 G p l e R s m args below meth c H locs cells slots Q lsA b ad A H0 n0 s0 hC) (fun q => (kf q).2 G p l e R s m args below meth c H locs cells slots Q lsA b ad A H0 n0 s0 hC)⟩
  by_cases q : y < x
  · exact (kt q).1
  · exact (kf q).1
theorem x_if_le {sc : cS} {d : Nat} {μ : Md} {pc : Nat} {ls : List (Option Value)} {st : List Value} {AH AH' : List AC} {r : Option Value} {x : Int32} {off : Int} (tgt : Nat) (hd : decode μ.1 pc = .ok (.ifCond .le off, 3)) (ht : (pc : Int) + off = (tgt : Int)) (kt : x ≤ 0 → X sc d μ tgt ls st AH r AH') (kf : ¬ x ≤ 0 → X sc d μ (pc + 3) ls st AH r AH') : X sc d μ pc ls (.int x :: st) AH r AH' := by
  refine ⟨?_, fun G p l e R s m args below meth c H locs cells slots Q lsA b ad A H0 n0 s0 hC => lv_if_le hC.1.1 hC.1.2.1 hd ht (fun q => (kt q).2 G p l e R s m args below meth c H locs cells slots Q lsA b ad A H0 n0 s0 hC) (fun q => (kf q).2 G p l e R s m args below meth c H locs cells slots Q lsA b ad A H0 n0 s0 hC)⟩
  by_cases q : x ≤ 0
  · exact (kt q).1
  · exact (kf q).1
theorem x_icmp_le {sc : cS} {d : Nat} {μ : Md} {pc : Nat} {ls : List (Option Value)} {st : List Value} {AH AH' : List AC} {r : Option Value} {x y : Int32} {off : Int} (tgt : Nat) (hd : decode μ.1 pc = .ok (.if_icmp .le off, 3)) (ht : (pc : Int) + off = (tgt : Int)) (kt : x ≤ y → X sc d μ tgt ls st AH r AH') (kf : ¬ x ≤ y → X sc d μ (pc + 3) ls st AH r AH') : X sc d μ pc ls (.int y :: .int x :: st) AH r AH' := by
  refine ⟨?_, fun G p l e R s m args below meth c H locs cells slots Q lsA b ad A H0 n0 s0 hC => lv_icmp_le hC.1.1 hC.1.2.1 hd ht (fun q => (kt q).2 G p l e R s m args below meth c H locs cells slots Q lsA b ad A H0 n0 s0 hC) (fun q => (kf q).2 G p l e R s m args below meth c H locs cells slots Q lsA b ad A H0 n0 s0 hC)⟩
  by_cases q : x ≤ y
  · exact (kt q).1
  · exact (kf q).1
theorem x_goto {sc : cS} {d : Nat} {μ : Md} {pc : Nat} {ls : List (Option Value)} {st : List Value} {AH AH' : List AC} {r : Option Value} {off : Int} (tgt : Nat) (hd : decode μ.1 pc = .ok (.goto off, 3)) (ht : (pc : Int) + off = (tgt : Int)) (k : X sc d μ tgt ls st AH r AH') : X sc d μ pc ls st AH r AH' := ⟨k.1, fun G p l e R s m args below meth c H locs cells slots Q lsA b ad A H0 n0 s0 hC => lv_goto hC.1.1 hC.1.2.1 hd ht (k.2 G p l e R s m args below meth c H locs cells slots Q lsA b ad A H0 n0 s0 hC)⟩
theorem x_ifnull {sc : cS} {d : Nat} {μ : Md} {pc : Nat} {ls : List (Option Value)} {st : List Value} {AH AH' : List AC} {r : Option Value} {o : Nat} {off : Int} (hd : decode μ.1 pc = .ok (.ifnull off, 3)) (k : X sc d μ (pc + 3) ls st AH r AH') : X sc d μ pc ls (.ref o :: st) AH r AH' := ⟨k.1, fun G p l e R s m args below meth c H locs cells slots Q lsA b ad A H0 n0 s0 hC => lv_ifnull hC.1.1 hC.1.2.1 hd (k.2 G p l e R s m args below meth c H locs cells slots Q lsA b ad A H0 n0 s0 hC)⟩
theorem x_tableIn {sc : cS} {d : Nat} {μ : Md} {pc : Nat} {ls : List (Option Value)} {st : List Value} {AH AH' : List AC} {r : Option Value} {x : Int32} {dflt lo hi off : Int} {offs : Array Int} {len : Nat} (tgt : Nat) (hd : decode μ.1 pc = .ok (.tableswitch dflt lo hi offs, len)) (h1 : ¬ x.toInt < lo) (h2 : ¬ hi < x.toInt) (ho : offs[(x.toInt - lo).toNat]? = some off) (ht : (pc : Int) + off = (tgt : Int)) (k : X sc d μ tgt ls st AH r AH') : X sc d μ pc ls (.int x :: st) AH r AH' := ⟨k.1, fun G p l e R s m args below meth c H locs cells slots Q lsA b ad A H0 n0 s0 hC => lv_tableIn hC.1.1 hC.1.2.1 hd h1 h2 ho ht (k.2 G p l e R s m args below meth c H locs cells slots Q lsA b ad A H0 n0 s0 hC)⟩
theorem x_tableOut {sc : cS} {d : Nat} {μ : Md} {pc : Nat} {ls : List (Option Value)} {st : List Value} {AH AH' : List AC} {r : Option Value} {x : Int32} {dflt lo hi : Int} {offs : Array Int} {len : Nat} (tgt : Nat) (hd : decode μ.1 pc = .ok (.tableswitch dflt lo hi offs, len)) (h : x.toInt < lo ∨ hi < x.toInt) (ht : (pc : Int) + dflt = (tgt : Int)) (k : X sc d μ tgt ls st AH r AH') : X sc d μ pc ls (.int x :: st) AH r AH' := ⟨k.1, fun G p l e R s m args below meth c H locs cells slots Q lsA b ad A H0 n0 s0 hC => lv_tableOut hC.1.1 hC.1.2.1 hd h ht (k.2 G p l e R s m args below meth c H locs cells slots Q lsA b ad A H0 n0 s0 hC)⟩
theorem x_lookup {sc : cS} {d : Nat} {μ : Md} {pc : Nat} {ls : List (Option Value)} {st : List Value} {AH AH' : List AC} {r : Option Value} {x : Int32} {dflt off : Int} {ps : Array (Int × Int)} {len : Nat} (tgt : Nat) (hd : decode μ.1 pc = .ok (.lookupswitch dflt ps, len)) (hp : (ps.toList.zip (ps.toList.drop 1)).all (fun (a, next) => a.1 < next.1) = true) (ho : Op.lookupswitch.offset ps.toList dflt x.toInt = off) (ht : (pc : Int) + off = (tgt : Int)) (k : X sc d μ tgt ls st AH r AH') : X sc d μ pc ls (.int x :: st) AH r AH' := ⟨k.1, fun G p l e R s m args below meth c H locs cells slots Q lsA b ad A H0 n0 s0 hC => lv_lookup hC.1.1 hC.1.2.1 hd hp ho ht (k.2 G p l e R s m args below meth c H locs cells slots Q lsA b ad A H0 n0 s0 hC)⟩
theorem x_ldcw {sc : cS} {d : Nat} {μ : Md} {pc : Nat} {ls : List (Option Value)} {st : List Value} {AH AH' : List AC} {r : Option Value} {idx : Nat} {v : Int32} (hd : decode μ.1 pc = .ok (.ldc_w idx, 3)) (hw : Cond.constant μ.2.1.cls idx v ∈ WA) (k : X sc d μ (pc + 3) ls (.int v :: st) AH r AH') : X sc d μ pc ls st AH r AH' := ⟨k.1, fun G p l e R s m args below meth c H locs cells slots Q lsA b ad A H0 n0 s0 hC => lv_ldcw hC.1.1 hC.1.2.1 hC.1.2.2.2.1 (hC.1.2.2.2.2.1 _ hw) hd (k.2 G p l e R s m args below meth c H locs cells slots Q lsA b ad A H0 n0 s0 hC)⟩
theorem x_end {sc : cS} {d : Nat} {μ : Md} {pc : Nat} {ls : List (Option Value)} {st : List Value} {AH : List AC} {r : Option Value} (h : Ends μ pc st r) : X sc d μ pc ls st AH r AH := by
  refine ⟨⟨Nat.le_refl _, Nat.le_refl _⟩, fun G p l e R s m args below meth c H locs cells slots Q lsA b ad A H0 n0 s0 hC => ?_⟩
  obtain ⟨-, -, hW, -, ⟨hS, -, hAd⟩, -, ⟨h1, h2, -, -⟩, hE⟩ := hC
  have h3 := hE pc lsA st [] H locs cells slots h (by rw [List.append_nil]; exact hW) hS (by rw [List.append_nil]; exact hAd) h1 h2
  rw [List.append_nil] at h3
  exact h3
theorem x_return {sc : cS} {d : Nat} {μ : Md} {pc : Nat} {ls : List (Option Value)} {AH : List AC} (hd : decode μ.1 pc = .ok (.return_, 1)) (hr : μ.2.2.2 = none) : X sc d μ pc ls [] AH none AH := x_end (Or.inl ⟨hd, rfl, rfl, hr⟩)
theorem x_ireturn {sc : cS} {d : Nat} {μ : Md} {pc : Nat} {ls : List (Option Value)} {AH : List AC} {v : Int32} {ty : FieldType} (hd : decode μ.1 pc = .ok (.ireturn, 1)) (hr : μ.2.2.2 = some ty) (hn : narrow ty (.int v) = .int v) : X sc d μ pc ls [.int v] AH (some (.int v)) AH := x_end (Or.inr (Or.inl ⟨v, ty, hd, rfl, rfl, hr, hn⟩))
theorem x_dreturn {sc : cS} {d : Nat} {μ : Md} {pc : Nat} {ls : List (Option Value)} {AH : List AC} {v : UInt64} (hd : decode μ.1 pc = .ok (.dreturn, 1)) (hr : μ.2.2.2 = some .double) : X sc d μ pc ls [.double v] AH (some (.double v)) AH := x_end (Or.inr (Or.inr (Or.inl ⟨v, hd, rfl, rfl, hr⟩)))
theorem x_areturn {sc : cS} {d : Nat} {μ : Md} {pc : Nat} {ls : List (Option Value)} {AH : List AC} {k : Nat} {C : String} (hd : decode μ.1 pc = .ok (.areturn, 1)) (hr : μ.2.2.2 = some (.object C)) : X sc d μ pc ls [.ref k] AH (some (.ref k)) AH := x_end (Or.inr (Or.inr (Or.inr ⟨k, C, hd, rfl, rfl, hr⟩)))
theorem x_dconst0 {sc : cS} {d : Nat} {μ : Md} {pc : Nat} {ls : List (Option Value)} {st : List Value} {AH AH' : List AC} {r : Option Value} (hd : decode μ.1 pc = .ok (.dconst 0, 1)) (k : X sc d μ (pc + 1) ls (.double FP.dconst0 :: st) AH r AH') : X sc d μ pc ls st AH r AH' := ⟨k.1, fun G p l e R s m args below meth c H locs cells slots Q lsA b ad A H0 n0 s0 hC => lv_dconst0 hC.1.1 hC.1.2.1 hd (k.2 G p l e R s m args below meth c H locs cells slots Q lsA b ad A H0 n0 s0 hC)⟩
