def cty : Nat → Nat → FieldType
  | 0 => tyX0
  | 1 => tyX1
  | 2 => tyX2
  | 3 => tyX3
  | 4 => tyX4
  | 5 => tyX5
  | _ => tyX6
def clsOK (ci : Nat) (q : vw_C) : Prop := (∀ k, k < q.2.2 → parseFieldDescriptor (q.2.1 k).2.2.1 = some (cty ci k)) ∧ (∀ a, a < q.2.2 → ∀ b, b < q.2.2 → a ≠ b → (q.2.1 a).2.1 ≠ (q.2.1 b).2.1) ∧ (∀ w ∈ u_ws q.1 q.2.1 q.2.2, w ∈ WA) ∧ ∀ k, k < q.2.2 → (q.2.1 k).1 = q.1
theorem cls_w {ws : List Cond} (h : ∀ w ∈ ws, w ∈ tables_1 ∧ goodWord w = true) : ∀ w ∈ ws, w ∈ WA := fun w hw => List.mem_filter.mpr ⟨List.mem_append_right _ (h w hw).1, (h w hw).2⟩
theorem cls_ok0 : clsOK 0 (RX0, TX0, 6) := ⟨tyX0_ok, nmX0, cls_w (by decide +kernel), by decide +kernel⟩
theorem cls_ok1 : clsOK 1 (RX1, TX1, 3) := ⟨tyX1_ok, nmX1, cls_w (by decide +kernel), by decide +kernel⟩
theorem cls_ok2 : clsOK 2 (RX2, TX2, 18) := ⟨tyX2_ok, nmX2, cls_w (by decide +kernel), by decide +kernel⟩
theorem cls_ok3 : clsOK 3 (RX3, TX3, 2) := ⟨tyX3_ok, nmX3, cls_w (by decide +kernel), by decide +kernel⟩
theorem cls_ok4 : clsOK 4 (RX4, TX4, 6) := ⟨tyX4_ok, nmX4, cls_w (by decide +kernel), by decide +kernel⟩
theorem cls_ok5 : clsOK 5 (RX5, TX5, 10) := ⟨tyX5_ok, nmX5, cls_w (by decide +kernel), by decide +kernel⟩
theorem cls_ok {ci : Nat} {q : vw_C} (h : vwCl[ci]? = some q) : clsOK ci q := by
  match ci, h with
  | 0, h => cases h; exact cls_ok0
  | 1, h => cases h; exact cls_ok1
  | 2, h => cases h; exact cls_ok2
  | 3, h => cases h; exact cls_ok3
  | 4, h => cases h; exact cls_ok4
  | 5, h => cases h; exact cls_ok5
  | n + 6, h => simp [vwCl] at h
def LkF (own : String) (idx ci j : Nat) (q : vw_C) : Prop := vwCl[ci]? = some q ∧ j < q.2.2 ∧ Cond.fieldLink own idx q.1 (q.2.1 j).2.1 (q.2.1 j).2.2.1 ∈ WA
theorem cv_ref {b o : Nat} {ad : List Nat} (h : o ≠ scrId) : cv b ad (.ref o) = .ref (ad.getD o 0) := by simp [cv, h]
section HP
variable {sc : cS} {d : Nat} {μ : Md} {pc : Nat} {ls : List (Option Value)} {st : List Value} {AH AH' : List AC} {r : Option Value}
theorem Cx_set {G : cG} {p : Program} {l : Launch} {e : Env} {R : Room} {s : State} {m : MethodId} {args : Array Value} {below : List Frame} {meth : Method} {c : Code} {H H1 : Heap} {locs locs1 : List Loc} {cells slots : Nat} {Q : State → Prop} {lsA : Array Slot} {b : Nat} {ad : List Nat} {A : Nat → Prop} {H0 : Heap} {n0 s0 : Nat} (hC : Cx sc G μ d ls AH r AH' p l e R s m args below meth c H locs cells slots Q lsA b ad A H0 n0 s0) {o : Nat} {c0 c1 : AC} (h0 : AH[o]? = some c0) (hc : csize c1 = csize c0)
    (hP1 : va_P (G.1, G.2.1) vwCl ((wsl G b ad AH).set o (ad.getD o 0, cvc G b ad c1)) H1) (hD1 : va_D A ((wsl G b ad AH).set o (ad.getD o 0, cvc G b ad c1))) (hS1 : va_S A H0 H1 locs1) : Cx sc G μ d ls (AH.set o c1) r AH' p l e R s m args below meth c H1 locs1 cells slots Q lsA b ad A H0 n0 s0 := by
  obtain ⟨h1, h2, h3, h4, ⟨h5, h6, h7⟩, h8, ⟨h9, h10, h11, h12⟩, h13⟩ := hC
  rw [wsl_set] at hP1 hD1
  exact ⟨h1, h2, aW_of (by rw [h3.1, List.length_set]) hP1 hD1, h4, ⟨hS1, h6, h7⟩, h8, ⟨by rw [List.length_set]; exact h9, by rw [csz_set h0 hc]; exact h10, h11, h12⟩, h13⟩
theorem X_set_mono {o : Nat} {c0 c1 : AC} (h0 : AH[o]? = some c0) (hc : csize c1 = csize c0) (h : (AH.set o c1).length ≤ AH'.length ∧ csz (AH.set o c1) ≤ csz AH') : AH.length ≤ AH'.length ∧ csz AH ≤ csz AH' := by
  rw [List.length_set, csz_set h0 hc] at h
  exact h
theorem x_getf {idx ci j o : Nat} {q : vw_C} {fs : List Value} {v : Value} (hl : LkF μ.2.1.cls idx ci j q) (hd : decode μ.1 pc = .ok (.getfield idx, 3)) (hn : o ≠ scrId) (ho : AH[o]? = some (.inl (ci, fs))) (hv : fs[j]? = some v) (k : X sc d μ (pc + 3) ls (v :: st) AH r AH') : X sc d μ pc ls (.ref o :: st) AH r AH' := by
  refine ⟨k.1, fun G p l e R s m args below meth c H locs cells slots Q lsA b ad A H0 n0 s0 hC => ?_⟩
  rw [List.map_cons, cv_ref hn]
  obtain ⟨hq, hj, hw⟩ := hl
  have hk := cls_ok hq
  exact va_get hC.1.1 hC.1.2.1 hC.1.2.2.2.2.1 hk.2.2.1 hC.1.2.2.2.1 hC.2.2.2.1.1.1 hC.2.2.1.2.1 o (wsl_get ho) hq j hj (hC.1.2.2.2.2.1 _ hw) (fun x h => by rw [hk.2.2.2 j hj] at h; exact h) (v := cv b ad v) (by simp [hv]) hd (k.2 G p l e R s m args below meth c H locs cells slots Q lsA b ad A H0 n0 s0 hC)
theorem x_putI {idx ci j o : Nat} {q : vw_C} {fs : List Value} {x : Int32} (hl : LkF μ.2.1.cls idx ci j q) (hd : decode μ.1 pc = .ok (.putfield idx, 3)) (hn : o ≠ scrId) (ho : AH[o]? = some (.inl (ci, fs))) (hj : j < fs.length) (hfin : (q.2.1 j).2.2.2 = false) (h1 : narrow (cty ci j) (.int x) = .int x) (h2 : fits (cty ci j) (.int x) = true) (k : X sc d μ (pc + 3) ls st (AH.set o (.inl (ci, fs.set j (.int x)))) r AH') : X sc d μ pc ls (.int x :: .ref o :: st) AH r AH' := by
  have hcs : csize (.inl (ci, fs.set j (.int x))) = csize (.inl (ci, fs)) := by simp [csize]
  refine ⟨X_set_mono ho hcs k.1, fun G p l e R s m args below meth c H locs cells slots Q lsA b ad A H0 n0 s0 hC => ?_⟩
  rw [List.map_cons, List.map_cons, cv_ref hn]
  obtain ⟨hq, hjN, hw⟩ := hl
  have hk := cls_ok hq
  refine va_put (v := .int x) hC.1.1 hC.1.2.1 hC.1.2.2.2.2.1 hk.2.2.1 (cty ci) hk.1 hk.2.1 hC.1.2.2.2.1 hC.2.2.2.1.1.1 hC.2.2.1.2.1 (aW_D hC.2.2.1 hC.2.2.2.2.1.2.2) hC.2.2.2.2.1.1 o (wsl_get ho) hq j hjN (hC.1.2.2.2.2.1 _ hw) (fun x h => by rw [hk.2.2.2 j hjN] at h; exact h) hfin (hk.1 j hjN) h1 h2 (by simpa using hj) hd (fun H1 locs1 hP1 hD1 hS1 => ?_)
  have ee : (Sum.inr (ci, (fs.map (cv b ad)).set j (.int x)) : va_E) = cvc G b ad (.inl (ci, fs.set j (.int x))) := by simp [cvc, cv, List.map_set]
  exact k.2 G p l e R s m args below meth c H1 locs1 cells slots Q lsA b ad A H0 n0 s0 (Cx_set hC ho hcs (by rw [← ee]; exact hP1) (by rw [← ee]; exact hD1) hS1)
theorem x_putR {idx ci j o k0 : Nat} {q : vw_C} {fs : List Value} (hl : LkF μ.2.1.cls idx ci j q) (hd : decode μ.1 pc = .ok (.putfield idx, 3)) (hn : o ≠ scrId) (hn0 : k0 ≠ scrId) (hin : μ.2.1.name = "<init>") (hcl : μ.2.1.cls = q.1) (ho : AH[o]? = some (.inl (ci, fs))) (hj : j < fs.length) (hfin : (q.2.1 j).2.2.2 = true) (h1 : ∀ a, narrow (cty ci j) (.ref a) = .ref a) (h2 : ∀ a, fits (cty ci j) (.ref a) = true) (k : X sc d μ (pc + 3) ls st (AH.set o (.inl (ci, fs.set j (.ref k0)))) r AH') : X sc d μ pc ls (.ref k0 :: .ref o :: st) AH r AH' := by
  have hcs : csize (.inl (ci, fs.set j (.ref k0))) = csize (.inl (ci, fs)) := by simp [csize]
  refine ⟨X_set_mono ho hcs k.1, fun G p l e R s m args below meth c H locs cells slots Q lsA b ad A H0 n0 s0 hC => ?_⟩
  rw [List.map_cons, List.map_cons, cv_ref hn, cv_ref hn0]
  obtain ⟨hq, hjN, hw⟩ := hl
  have hk := cls_ok hq
  refine va_putF (v := .ref (ad.getD k0 0)) hC.1.1 hC.1.2.1 hC.1.2.2.2.2.1 hk.2.2.1 (cty ci) hk.1 hk.2.1 hC.1.2.2.2.1 hC.2.2.2.1.1.1 hC.2.2.1.2.1 (aW_D hC.2.2.1 hC.2.2.2.2.1.2.2) hC.2.2.2.2.1.1 o (wsl_get ho) hq j hjN (hC.1.2.2.2.2.1 _ hw) (fun x h => by rw [hk.2.2.2 j hjN] at h; exact h) hfin (hC.1.2.2.2.2.2 hin) ((hk.2.2.2 j hjN).trans hcl.symm) (hk.1 j hjN) (h1 _) (h2 _) (by simpa using hj) hd (fun H1 locs1 hP1 hD1 hS1 => ?_)
  have ee : (Sum.inr (ci, (fs.map (cv b ad)).set j (.ref (ad.getD k0 0))) : va_E) = cvc G b ad (.inl (ci, fs.set j (.ref k0))) := by simp [cvc, cv, List.map_set, hn0]
  exact k.2 G p l e R s m args below meth c H1 locs1 cells slots Q lsA b ad A H0 n0 s0 (Cx_set hC ho hcs (by rw [← ee]; exact hP1) (by rw [← ee]; exact hD1) hS1)
theorem getD_set {xs : List Int32} {i : Nat} {x : Int32} (h : i < xs.length) : (fun j => (xs.set i x).getD j 0) = upd (fun j => xs.getD j 0) i x := by
  funext j
  by_cases hj : j = i
  · subst hj
    simp [upd, List.getD_eq_getElem?_getD, h]
  · simp [upd, hj, List.getD_eq_getElem?_getD, List.getElem?_set_ne (Ne.symm hj)]
theorem x_iaload {a : Nat} {i : Int32} {xs : List Int32} (hd : decode μ.1 pc = .ok (.iaload, 1)) (hn : a ≠ scrId) (ha : AH[a]? = some (.inr (.inl (0, xs)))) (hi : vp_in i xs.length) (k : X sc d μ (pc + 1) ls (.int (xs.getD i.toNatClampNeg 0) :: st) AH r AH') : X sc d μ pc ls (.int i :: .ref a :: st) AH r AH' := by
  refine ⟨k.1, fun G p l e R s m args below meth c H locs cells slots Q lsA b ad A H0 n0 s0 hC => ?_⟩
  rw [List.map_cons, List.map_cons, cv_ref hn]
  exact va_iald hC.1.1 hC.1.2.1 hC.2.2.2.1.1.1 hC.2.2.1.2.1 a 0 (wsl_get ha) rfl hi hd (k.2 G p l e R s m args below meth c H locs cells slots Q lsA b ad A H0 n0 s0 hC)
theorem x_baload {a : Nat} {i : Int32} {xs : List Int32} (hd : decode μ.1 pc = .ok (.baload, 1)) (hn : a ≠ scrId) (ha : AH[a]? = some (.inr (.inl (1, xs)))) (hi : vp_in i xs.length) (k : X sc d μ (pc + 1) ls (.int (xs.getD i.toNatClampNeg 0) :: st) AH r AH') : X sc d μ pc ls (.int i :: .ref a :: st) AH r AH' := by
  refine ⟨k.1, fun G p l e R s m args below meth c H locs cells slots Q lsA b ad A H0 n0 s0 hC => ?_⟩
  rw [List.map_cons, List.map_cons, cv_ref hn]
  exact va_zald hC.1.1 hC.1.2.1 hC.2.2.2.1.1.1 hC.2.2.1.2.1 a 1 (wsl_get ha) rfl hi hd (k.2 G p l e R s m args below meth c H locs cells slots Q lsA b ad A H0 n0 s0 hC)
theorem x_caload {a : Nat} {i : Int32} {xs : List Int32} (hd : decode μ.1 pc = .ok (.caload, 1)) (hn : a ≠ scrId) (ha : AH[a]? = some (.inr (.inl (2, xs)))) (hi : vp_in i xs.length) (k : X sc d μ (pc + 1) ls (.int (xs.getD i.toNatClampNeg 0) :: st) AH r AH') : X sc d μ pc ls (.int i :: .ref a :: st) AH r AH' := by
  refine ⟨k.1, fun G p l e R s m args below meth c H locs cells slots Q lsA b ad A H0 n0 s0 hC => ?_⟩
  rw [List.map_cons, List.map_cons, cv_ref hn]
  exact va_cald hC.1.1 hC.1.2.1 hC.2.2.2.1.1.1 hC.2.2.1.2.1 a 2 (wsl_get ha) rfl hi hd (k.2 G p l e R s m args below meth c H locs cells slots Q lsA b ad A H0 n0 s0 hC)
theorem vp_in_lt {i : Int32} {n : Nat} (h : vp_in i n) : i.toNatClampNeg < n := Nat.not_le.mp fun q => h (Or.inr q)
theorem x_iastore {a : Nat} {i x : Int32} {xs : List Int32} (hd : decode μ.1 pc = .ok (.iastore, 1)) (hn : a ≠ scrId) (ha : AH[a]? = some (.inr (.inl (0, xs)))) (hi : vp_in i xs.length) (k : X sc d μ (pc + 1) ls st (AH.set a (.inr (.inl (0, xs.set i.toNatClampNeg x)))) r AH') : X sc d μ pc ls (.int x :: .int i :: .ref a :: st) AH r AH' := by
  have hcs : csize (.inr (.inl (0, xs.set i.toNatClampNeg x))) = csize (.inr (.inl (0, xs))) := by simp [csize]
  refine ⟨X_set_mono ha hcs k.1, fun G p l e R s m args below meth c H locs cells slots Q lsA b ad A H0 n0 s0 hC => ?_⟩
  rw [List.map_cons, List.map_cons, List.map_cons, cv_ref hn]
  refine va_iast hC.1.1 hC.1.2.1 hC.2.2.2.1.1.1 hC.2.2.1.2.1 (aW_D hC.2.2.1 hC.2.2.2.2.1.2.2) hC.2.2.2.2.1.1 a 0 (wsl_get ha) rfl hi hd (fun H1 locs1 hP1 hD1 hS1 => ?_)
  have ee : cvc G b ad (.inr (.inl (0, xs.set i.toNatClampNeg x))) = .inl (G.2.2 0, xs.length, .inl (upd (fun j => xs.getD j 0) i.toNatClampNeg x)) := by simp only [cvc, List.length_set, getD_set (vp_in_lt hi)]
  exact k.2 G p l e R s m args below meth c H1 locs1 cells slots Q lsA b ad A H0 n0 s0 (Cx_set hC ha hcs (by rw [ee]; exact hP1) (by rw [ee]; exact hD1) hS1)
theorem x_bastore {a : Nat} {i x : Int32} {xs : List Int32} (hd : decode μ.1 pc = .ok (.bastore, 1)) (hn : a ≠ scrId) (ha : AH[a]? = some (.inr (.inl (1, xs)))) (hi : vp_in i xs.length) (k : X sc d μ (pc + 1) ls st (AH.set a (.inr (.inl (1, xs.set i.toNatClampNeg (vp_nar .boolean x))))) r AH') : X sc d μ pc ls (.int x :: .int i :: .ref a :: st) AH r AH' := by
  have hcs : csize (.inr (.inl (1, xs.set i.toNatClampNeg (vp_nar .boolean x)))) = csize (.inr (.inl (1, xs))) := by simp [csize]
  refine ⟨X_set_mono ha hcs k.1, fun G p l e R s m args below meth c H locs cells slots Q lsA b ad A H0 n0 s0 hC => ?_⟩
  rw [List.map_cons, List.map_cons, List.map_cons, cv_ref hn]
  refine va_zast hC.1.1 hC.1.2.1 hC.2.2.2.1.1.1 hC.2.2.1.2.1 (aW_D hC.2.2.1 hC.2.2.2.2.1.2.2) hC.2.2.2.2.1.1 a 1 (wsl_get ha) rfl hi hd (fun H1 locs1 hP1 hD1 hS1 => ?_)
  have ee : cvc G b ad (.inr (.inl (1, xs.set i.toNatClampNeg (vp_nar .boolean x)))) = .inl (G.2.2 1, xs.length, .inl (upd (fun j => xs.getD j 0) i.toNatClampNeg (vp_nar .boolean x))) := by simp only [cvc, List.length_set, getD_set (vp_in_lt hi)]
  exact k.2 G p l e R s m args below meth c H1 locs1 cells slots Q lsA b ad A H0 n0 s0 (Cx_set hC ha hcs (by rw [ee]; exact hP1) (by rw [ee]; exact hD1) hS1)
theorem x_castore {a : Nat} {i x : Int32} {xs : List Int32} (hd : decode μ.1 pc = .ok (.castore, 1)) (hn : a ≠ scrId) (ha : AH[a]? = some (.inr (.inl (2, xs)))) (hi : vp_in i xs.length) (k : X sc d μ (pc + 1) ls st (AH.set a (.inr (.inl (2, xs.set i.toNatClampNeg (vp_nar .char x))))) r AH') : X sc d μ pc ls (.int x :: .int i :: .ref a :: st) AH r AH' := by
  have hcs : csize (.inr (.inl (2, xs.set i.toNatClampNeg (vp_nar .char x)))) = csize (.inr (.inl (2, xs))) := by simp [csize]
  refine ⟨X_set_mono ha hcs k.1, fun G p l e R s m args below meth c H locs cells slots Q lsA b ad A H0 n0 s0 hC => ?_⟩
  rw [List.map_cons, List.map_cons, List.map_cons, cv_ref hn]
  refine va_cast hC.1.1 hC.1.2.1 hC.2.2.2.1.1.1 hC.2.2.1.2.1 (aW_D hC.2.2.1 hC.2.2.2.2.1.2.2) hC.2.2.2.2.1.1 a 2 (wsl_get ha) rfl hi hd (fun H1 locs1 hP1 hD1 hS1 => ?_)
  have ee : cvc G b ad (.inr (.inl (2, xs.set i.toNatClampNeg (vp_nar .char x)))) = .inl (G.2.2 2, xs.length, .inl (upd (fun j => xs.getD j 0) i.toNatClampNeg (vp_nar .char x))) := by simp only [cvc, List.length_set, getD_set (vp_in_lt hi)]
  exact k.2 G p l e R s m args below meth c H1 locs1 cells slots Q lsA b ad A H0 n0 s0 (Cx_set hC ha hcs (by rw [ee]; exact hP1) (by rw [ee]; exact hD1) hS1)
theorem x_alen {a : Nat} {t : Nat} {xs : List Int32} (ht : t < 3) (hd : decode μ.1 pc = .ok (.arraylength, 1)) (hn : a ≠ scrId) (ha : AH[a]? = some (.inr (.inl (t, xs)))) (k : X sc d μ (pc + 1) ls (.int (Int32.ofNat xs.length) :: st) AH r AH') : X sc d μ pc ls (.ref a :: st) AH r AH' := by
  refine ⟨k.1, fun G p l e R s m args below meth c H locs cells slots Q lsA b ad A H0 n0 s0 hC => ?_⟩
  rw [List.map_cons, cv_ref hn]
  rcases (show t = 0 ∨ t = 1 ∨ t = 2 by omega) with rfl | rfl | rfl
  · exact va_alen hC.1.1 hC.1.2.1 hC.2.2.2.1.1.1 hC.2.2.1.2.1 a 0 (wsl_get ha) (ty := .int) rfl rfl hd (k.2 G p l e R s m args below meth c H locs cells slots Q lsA b ad A H0 n0 s0 hC)
  · exact va_alen hC.1.1 hC.1.2.1 hC.2.2.2.1.1.1 hC.2.2.1.2.1 a 1 (wsl_get ha) (ty := .boolean) rfl rfl hd (k.2 G p l e R s m args below meth c H locs cells slots Q lsA b ad A H0 n0 s0 hC)
  · exact va_alen hC.1.1 hC.1.2.1 hC.2.2.2.1.1.1 hC.2.2.1.2.1 a 2 (wsl_get ha) (ty := .char) rfl rfl hd (k.2 G p l e R s m args below meth c H locs cells slots Q lsA b ad A H0 n0 s0 hC)
theorem x_aaload {a k0 : Nat} {i : Int32} {rs : List (Option Nat)} (hd : decode μ.1 pc = .ok (.aaload, 1)) (hn : a ≠ scrId) (hn0 : k0 ≠ scrId) (ha : AH[a]? = some (.inr (.inr rs))) (hi : vp_in i rs.length) (hk : rs.getD i.toNatClampNeg none = some k0) (k : X sc d μ (pc + 1) ls (.ref k0 :: st) AH r AH') : X sc d μ pc ls (.int i :: .ref a :: st) AH r AH' := by
  refine ⟨k.1, fun G p l e R s m args below meth c H locs cells slots Q lsA b ad A H0 n0 s0 hC => ?_⟩
  rw [List.map_cons, List.map_cons, cv_ref hn]
  refine va_aldq hC.1.1 hC.1.2.1 hC.2.2.2.1.1.1 hC.2.2.1.2.1 a 3 (wsl_get ha) (C := "BarterRings$Market") rfl hi hd ?_
  have h := k.2 G p l e R s m args below meth c H locs cells slots Q lsA b ad A H0 n0 s0 hC
  rw [List.map_cons, cv_ref hn0] at h
  have ee : va_rf ((rs.getD i.toNatClampNeg none).map (fun k => ad.getD k 0)) = .ref (ad.getD k0 0) := by rw [hk]; rfl
  show W p l e R s m args below meth c H locs cells slots Q (F0 m (pc + 1) lsA (va_rf ((rs.getD i.toNatClampNeg none).map (fun k => ad.getD k 0)) :: st.map (cv b ad)))
  rw [ee]
  exact h
theorem x_aastore {a k0 : Nat} {i : Int32} {rs : List (Option Nat)} {vs : List Value} (hd : decode μ.1 pc = .ok (.aastore, 1)) (hn : a ≠ scrId) (hn0 : k0 ≠ scrId) (ha : AH[a]? = some (.inr (.inr rs))) (hv : AH[k0]? = some (.inl (2, vs))) (hi : vp_in i rs.length) (k : X sc d μ (pc + 1) ls st (AH.set a (.inr (.inr (rs.set i.toNatClampNeg (some k0))))) r AH') : X sc d μ pc ls (.ref k0 :: .int i :: .ref a :: st) AH r AH' := by
  have hcs : csize (.inr (.inr (rs.set i.toNatClampNeg (some k0)))) = csize (.inr (.inr rs)) := by simp [csize]
  refine ⟨X_set_mono ha hcs k.1, fun G p l e R s m args below meth c H locs cells slots Q lsA b ad A H0 n0 s0 hC => ?_⟩
  rw [List.map_cons, List.map_cons, List.map_cons, cv_ref hn, cv_ref hn0]
  refine va_astq hC.1.1 hC.1.2.1 hC.2.2.2.1.1.1 hC.2.2.1.2.1 (aW_D hC.2.2.1 hC.2.2.2.2.1.2.2) hC.2.2.2.2.1.1 a 3 k0 2 (r := (RX2, TX2, 18)) (wsl_get ha) rfl (wsl_get hv) rfl hi hd (fun H1 locs1 hP1 hD1 hS1 => ?_)
  have ee : cvc G b ad (.inr (.inr (rs.set i.toNatClampNeg (some k0)))) = .inl (G.2.2 3, rs.length, .inr (.inr (.inr (.inr (va_up (fun j => (rs.getD j none).map (fun k => ad.getD k 0)) i.toNatClampNeg (some (ad.getD k0 0))))))) := by
    simp only [cvc, List.length_set]
    congr 7
    funext j
    by_cases hj : j = i.toNatClampNeg
    · subst hj
      simp [va_up, List.getD_eq_getElem?_getD, vp_in_lt hi]
    · simp [va_up, hj, List.getD_eq_getElem?_getD, List.getElem?_set_ne (Ne.symm hj)]
  exact k.2 G p l e R s m args below meth c H1 locs1 cells slots Q lsA b ad A H0 n0 s0 (Cx_set hC ha hcs (by rw [ee]; exact hP1) (by rw [ee]; exact hD1) hS1)
def cpL (xs ys : List Int32) (sp dp n : Nat) : List Int32 := (List.range ys.length).map (fun k => if dp ≤ k ∧ k < dp + n then xs.getD (sp + (k - dp)) 0 else ys.getD k 0)
theorem x_copy {idx a0 a : Nat} {sp dp n : Int32} {xs ys : List Int32} (hd : decode μ.1 pc = .ok (.invokestatic idx, 3)) (hw : Cond.methodLink μ.2.1.cls idx arraycopyName ∈ WA) (hdd : 1 ≤ d) (hn0 : a0 ≠ scrId) (hn : a ≠ scrId) (ha0 : AH[a0]? = some (.inr (.inl (0, xs)))) (ha : AH[a]? = some (.inr (.inl (0, ys)))) (h1 : ¬ sp < 0) (h2 : ¬ dp < 0) (h3 : ¬ n < 0) (h4 : sp.toNatClampNeg + n.toNatClampNeg ≤ xs.length) (h5 : dp.toNatClampNeg + n.toNatClampNeg ≤ ys.length) (hst : (st.map fun v => v.category).sum ≤ 8)
    (k : X sc d μ (pc + 3) ls st (AH.set a (.inr (.inl (0, cpL xs ys sp.toNatClampNeg dp.toNatClampNeg n.toNatClampNeg)))) r AH') : X sc d μ pc ls (.int n :: .int dp :: .ref a :: .int sp :: .ref a0 :: st) AH r AH' := by
  have hcs : csize (.inr (.inl (0, cpL xs ys sp.toNatClampNeg dp.toNatClampNeg n.toNatClampNeg))) = csize (.inr (.inl (0, ys))) := by simp [csize, cpL]
  refine ⟨X_set_mono ha hcs k.1, fun G p l e R s m args below meth c H locs cells slots Q lsA b ad A H0 n0 s0 hC => ?_⟩
  simp only [List.map_cons, cv_ref hn, cv_ref hn0]
  have hts := hC.1.2.2.2.2.1
  have hcat : ((st.map (cv b ad)).map fun v => v.category).sum = (st.map fun v => v.category).sum := by
    rw [List.map_map]
    congr 1
    exact List.map_congr_left (fun v _ => cv_cat v)
  have hnf : nativeFrameWords "java/lang/System" "arraycopy" 5 = 7 := by decide
  refine va_copyi hC.1.1 hC.1.2.1 (hC.1.2.2.1.trans hC.2.1.1.symm) hC.1.2.2.2.1 (hts _ hw) (hts (.native arraycopyName) wa_cp1) (hts (.static arraycopyName) wa_cp2) (hts (.initialized "java/lang/System") wa_cp3) hC.2.2.2.1.1.1 hC.2.2.1.2.1 (aW_D hC.2.2.1 hC.2.2.2.2.1.2.2) hC.2.2.2.2.1.1 a0 a 0 0 (wsl_get ha0) (wsl_get ha) rfl rfl rfl h1 h2 h3 h4 h5 (fun i _ => rfl) (Nat.le_trans hdd hC.2.2.2.2.2.1.1) (by rw [hcat, hnf]; have := hC.2.2.2.2.2.1.2; omega) hd (fun H1 locs1 hP1 hD1 hS1 => ?_)
  have ee : cvc G b ad (.inr (.inl (0, cpL xs ys sp.toNatClampNeg dp.toNatClampNeg n.toNatClampNeg))) = .inl (G.2.2 0, ys.length, .inl (va_cpy (fun j => xs.getD j 0) (fun j => ys.getD j 0) sp.toNatClampNeg dp.toNatClampNeg n.toNatClampNeg)) := by
    simp only [cvc]
    have e1 : (cpL xs ys sp.toNatClampNeg dp.toNatClampNeg n.toNatClampNeg).length = ys.length := by simp [cpL]
    have e2 : (fun j => (cpL xs ys sp.toNatClampNeg dp.toNatClampNeg n.toNatClampNeg).getD j 0) = va_cpy (fun j => xs.getD j 0) (fun j => ys.getD j 0) sp.toNatClampNeg dp.toNatClampNeg n.toNatClampNeg := by
      funext j
      by_cases hj : j < ys.length
      · simp [cpL, va_cpy, List.getD_eq_getElem?_getD, hj]
      · have h6 : ¬ (dp.toNatClampNeg ≤ j ∧ j < dp.toNatClampNeg + n.toNatClampNeg) := by omega
        simp only [va_cpy, if_neg h6]
        simp [cpL, List.getD_eq_getElem?_getD, hj]
    rw [e1, e2]
  exact k.2 G p l e R s m args below meth c H1 locs1 cells slots Q lsA b ad A H0 n0 s0 (Cx_set hC ha hcs (by rw [ee]; exact hP1) (by rw [ee]; exact hD1) hS1)
end HP
