section NW
variable {sc : cS} {d : Nat} {μ : Md} {pc : Nat} {ls : List (Option Value)} {st : List Value} {AH AH' : List AC} {r : Option Value}
def okS (AH : List AC) (ls : List (Option Value)) (st : List Value) : Bool := okH AH && okL AH.length ls && st.all (okv AH.length) && decide (AH.length ≠ scrId)
theorem okS_spec (h : okS AH ls st = true) : okH AH = true ∧ okL AH.length ls = true ∧ st.all (okv AH.length) = true ∧ AH.length ≠ scrId := by
  simp only [okS, Bool.and_eq_true, decide_eq_true_eq] at h
  exact ⟨h.1.1.1, h.1.1.2, h.1.2, h.2⟩
theorem Cx_push {G : cG} {p : Program} {l : Launch} {e : Env} {R : Room} {s : State} {m : MethodId} {args : Array Value} {below : List Frame} {meth : Method} {c : Code} {H H1 : Heap} {locs locs1 : List Loc} {cells slots : Nat} {Q : State → Prop} {lsA : Array Slot} {b q : Nat} {ad : List Nat} {A : Nat → Prop} {H0 : Heap} {n0 s0 n : Nat} (hC : Cx sc G μ d ls AH r AH' p l e R s m args below meth c H locs cells slots Q lsA b ad A H0 n0 s0) {c1 : AC} (hc : csize c1 = n) (ho : okS AH ls st = true)
    (hP1 : va_P (G.1, G.2.1) vwCl (wsl G b ad AH ++ [(q, cvc G b (ad ++ [q]) c1)]) H1) (hD1 : va_D A (wsl G b ad AH ++ [(q, cvc G b (ad ++ [q]) c1)])) (hS1 : va_S A H0 H1 locs1) : Cx sc G μ d ls (AH ++ [c1]) r AH' p l e R s m args below meth c H1 locs1 (cells + 1) (slots + n) Q lsA b (ad ++ [q]) A H0 n0 s0 := by
  obtain ⟨o1, o2, -, -⟩ := okS_spec ho
  obtain ⟨h1, h2, h3, h4, ⟨h5, h6, h7⟩, h8, ⟨h9, h10, h11, h12⟩, h13⟩ := hC
  have hq : A q := hD1.2 AH.length (q, cvc G b (ad ++ [q]) c1) (by rw [List.getElem?_append_right (by rw [wsl_len]; exact Nat.le_refl _), wsl_len, Nat.sub_self]; rfl)
  rw [wsl_push h3.1 o1] at hP1 hD1
  rw [← h3.1] at o2
  refine ⟨h1, lsOK_ext h2 o2, aW_of (by simp [h3.1]) hP1 hD1, h4, ⟨hS1, h6, fun x hx => ?_⟩, h8, ⟨by simp; omega, by rw [csz_push, hc]; omega, h11, h12⟩, fun pc' lsB st' ex H' locs' c' s' e1 e2 e3 e6 e4 e5 => ?_⟩
  · rcases List.mem_append.mp hx with h | h
    · exact h7 x h
    · rw [List.mem_singleton.mp h]; exact hq
  · rw [List.append_assoc] at e2 e6 ⊢
    exact h13 pc' lsB st' ([q] ++ ex) H' locs' c' s' e1 e2 e3 e6 e4 e5
theorem push_st {b q : Nat} {ad : List Nat} (hl : ad.length = AH.length) (ho : okS AH ls st = true) : (Value.ref AH.length :: st).map (cv b (ad ++ [q])) = .ref q :: st.map (cv b ad) := by
  obtain ⟨-, -, o3, o4⟩ := okS_spec ho
  rw [List.map_cons, cv_ref o4, st_ext (by rw [hl]; exact o3)]
  simp [List.getD_eq_getElem?_getD, ← hl]
theorem X_push_mono {c1 : AC} (h : (AH ++ [c1]).length ≤ AH'.length ∧ csz (AH ++ [c1]) ≤ csz AH') : AH.length + 1 ≤ AH'.length ∧ csz AH + csize c1 ≤ csz AH' := by
  rw [csz_push] at h
  exact ⟨by simpa using h.1, h.2⟩
def dfl (ci N : Nat) : List Value := (List.range N).map (fun j => defaultValue (cty ci j))
theorem cv_dfl {b : Nat} {ad : List Nat} (ty : FieldType) : cv b ad (defaultValue ty) = defaultValue ty := by cases ty <;> rfl
theorem x_new {idx ci : Nat} {q : vw_C} (hd : decode μ.1 pc = .ok (.new idx, 3)) (hq : vwCl[ci]? = some q) (hw1 : Cond.classLink μ.2.1.cls idx q.1 ∈ WA) (hw2 : Cond.instantiable q.1 q.2.2 ∈ WA) (hw3 : Cond.initialized q.1 ∈ WA) (ho : okS AH ls st = true) (k : X sc d μ (pc + 3) ls (.ref AH.length :: st) (AH ++ [.inl (ci, dfl ci q.2.2)]) r AH') : X sc d μ pc ls st AH r AH' := by
  have hm := X_push_mono k.1
  refine ⟨⟨by omega, by omega⟩, fun G p l e R s m args below meth c H locs cells slots Q lsA b ad A H0 n0 s0 hC => ?_⟩
  have hk := cls_ok hq
  have hts := hC.1.2.2.2.2.1
  obtain ⟨r1, r2, r3, r4⟩ := hC.2.2.2.2.2.2.1
  have hsz : csize (.inl (ci, dfl ci q.2.2)) = q.2.2 := by simp [csize, dfl]
  rw [hsz] at hm
  have ev : cvc G b (ad ++ [0]) (.inl (ci, dfl ci q.2.2)) = .inr (ci, dfl ci q.2.2) := by
    simp only [cvc, dfl, List.map_map]
    congr 2
    exact List.map_congr_left (fun j _ => cv_dfl _)
  refine va_new (ci := ci) (fs := dfl ci q.2.2) (C := q.1) (T := q.2.1) (N := q.2.2) hC.1.1 hC.1.2.1 hts hk.2.2.1 (cty ci) hk.1 hC.1.2.2.2.1 (hts _ hw1) (hts _ hw2) (hts _ hw3) hC.2.2.2.1.1.1 hC.2.2.1.2.1 (aW_D hC.2.2.1 hC.2.2.2.2.1.2.2) hC.2.2.2.2.1.1 hC.2.2.2.2.1.2.1 hq (fun j hj => by simp [vp_V, dfl, List.getD_eq_getElem?_getD, hj]) (by omega) (by omega) hd (fun q1 H1 hP1 hD1 hS1 => ?_)
  have ev1 : cvc G b (ad ++ [q1]) (.inl (ci, dfl ci q.2.2)) = .inr (ci, dfl ci q.2.2) := by
    simp only [cvc, dfl, List.map_map]
    congr 2
    exact List.map_congr_left (fun j _ => cv_dfl _)
  rw [← push_st (b := b) hC.2.2.1.1 ho]
  exact k.2 G p l e R s m args below meth c H1 locs (cells + 1) (slots + q.2.2) Q lsA b (ad ++ [q1]) A H0 n0 s0 (Cx_push hC hsz ho (by rw [ev1]; exact hP1) (by rw [ev1]; exact hD1) hS1)
theorem arr_uniq {G : cG} {s : State} {cA : ClassId} {ty : FieldType} (t : Nat) (ht : t < 4) (hty : ty = tyN t) (hK : va_K (G.1, G.2.1) vwCl (tysG G ++ [(cA, ty)]) s) : cA = G.2.2 t := by
  subst hty
  have h1 := (hK.2 4 (cA, tyN t) rfl).2
  rcases (show t = 0 ∨ t = 1 ∨ t = 2 ∨ t = 3 by omega) with rfl | rfl | rfl | rfl
  · have h2 := (hK.2 0 (G.2.2 0, .int) rfl).2
    exact Option.some.inj (h1.symm.trans h2)
  · have h2 := (hK.2 1 (G.2.2 1, .boolean) rfl).2
    exact Option.some.inj (h1.symm.trans h2)
  · have h2 := (hK.2 2 (G.2.2 2, .char) rfl).2
    exact Option.some.inj (h1.symm.trans h2)
  · have h2 := (hK.2 3 (G.2.2 3, .object "BarterRings$Market") rfl).2
    obtain ⟨-, -, -, -, -, g1⟩ := h1
    obtain ⟨-, -, -, -, -, g2⟩ := h2
    exact Option.some.inj (g1.symm.trans g2)
theorem x_newarray {atype : ArrayType} {n : Int32} (t : Nat) (ht : t < 3) (hat : newarray.typeOf atype = tyN t) (hdv : defaultValue (tyN t) = .int 0) (hw : Cond.arrayClass (newarray.typeOf atype) ∈ WA) (hd : decode μ.1 pc = .ok (.newarray atype, 2)) (hn : ¬ n < 0) (hN : n.toNatClampNeg ≤ 1000) (hcb : componentBytes (newarray.typeOf atype) ≤ 8) (ho : okS AH ls st = true) (k : X sc d μ (pc + 2) ls (.ref AH.length :: st) (AH ++ [.inr (.inl (t, List.replicate n.toNatClampNeg 0))]) r AH') : X sc d μ pc ls (.int n :: st) AH r AH' := by
  have hm := X_push_mono k.1
  refine ⟨⟨by omega, by omega⟩, fun G p l e R s m args below meth c H locs cells slots Q lsA b ad A H0 n0 s0 hC => ?_⟩
  have hts := hC.1.2.2.2.2.1
  obtain ⟨r1, r2, r3, r4⟩ := hC.2.2.2.2.2.2.1
  have hsz : csize (.inr (.inl (t, List.replicate n.toNatClampNeg 0))) = n.toNatClampNeg := by simp [csize]
  rw [hsz] at hm
  have hb : n.toNatClampNeg * componentBytes (newarray.typeOf atype) ≤ 536870912 := Nat.le_trans (Nat.mul_le_mul hN hcb) (by decide)
  refine va_newa hC.1.1 hC.1.2.1 (atype := atype) (hts _ hw) rfl hC.2.2.2.1.1.1 hC.2.2.1.2.1 (aW_D hC.2.2.1 hC.2.2.2.2.1.2.2) hC.2.2.2.2.1.1 hC.2.2.2.2.1.2.1 (a0 := (n.toNatClampNeg, .inl (fun j => (List.replicate n.toNatClampNeg 0).getD j 0))) (fun cA => ?_) hn rfl hb (by omega) (by omega) hd (fun q1 cA H1 hK1 hP1 hD1 hS1 => ?_)
  · rw [vp_cell_i, hat, hdv]
    congr 1
    funext j
    simp only [List.getD_eq_getElem?_getD, List.getElem?_replicate]
    split <;> rfl
  have hu := arr_uniq t (by omega) hat hK1
  have ev1 : cvc G b (ad ++ [q1]) (.inr (.inl (t, List.replicate n.toNatClampNeg 0))) = .inl (cA, n.toNatClampNeg, .inl (fun j => (List.replicate n.toNatClampNeg 0).getD j 0)) := by
    simp only [cvc, List.length_replicate, hu]
  rw [← push_st (b := b) hC.2.2.1.1 ho]
  exact k.2 G p l e R s m args below meth c H1 locs (cells + 1) (slots + n.toNatClampNeg) Q lsA b (ad ++ [q1]) A H0 n0 s0 (Cx_push hC hsz ho (by rw [ev1]; exact hP1) (by rw [ev1]; exact hD1) hS1)
theorem x_anewarray {idx : Nat} {n : Int32} (hd : decode μ.1 pc = .ok (.anewarray idx, 3)) (hw : Cond.classLink μ.2.1.cls idx "BarterRings$Market" ∈ WA) (hn : ¬ n < 0) (hN : n.toNatClampNeg ≤ 1000) (ho : okS AH ls st = true) (k : X sc d μ (pc + 3) ls (.ref AH.length :: st) (AH ++ [.inr (.inr (List.replicate n.toNatClampNeg none))]) r AH') : X sc d μ pc ls (.int n :: st) AH r AH' := by
  have hm := X_push_mono k.1
  refine ⟨⟨by omega, by omega⟩, fun G p l e R s m args below meth c H locs cells slots Q lsA b ad A H0 n0 s0 hC => ?_⟩
  have hts := hC.1.2.2.2.2.1
  obtain ⟨r1, r2, r3, r4⟩ := hC.2.2.2.2.2.2.1
  have hsz : csize (.inr (.inr (List.replicate n.toNatClampNeg none))) = n.toNatClampNeg := by simp [csize]
  rw [hsz] at hm
  refine va_newq hC.1.1 hC.1.2.1 hC.1.2.2.2.1 (hts _ hw) hC.2.2.2.1.1.2.2 hC.2.2.2.1.1.1 hC.2.2.1.2.1 (aW_D hC.2.2.1 hC.2.2.2.2.1.2.2) hC.2.2.2.2.1.1 hC.2.2.2.2.1.2.1 hn rfl (by omega) (by omega) (by omega) hd (fun q1 cA H1 hK1 hP1 hD1 hS1 => ?_)
  have hu := arr_uniq 3 (by omega) rfl hK1
  have ev1 : cvc G b (ad ++ [q1]) (.inr (.inr (List.replicate n.toNatClampNeg none))) = .inl (cA, n.toNatClampNeg, .inr (.inr (.inr (.inr (fun _ => none))))) := by
    simp only [cvc, List.length_replicate, hu]
    congr 7
    funext j
    simp only [List.getD_eq_getElem?_getD, List.getElem?_replicate]
    split <;> rfl
  rw [← push_st (b := b) hC.2.2.1.1 ho]
  exact k.2 G p l e R s m args below meth c H1 locs (cells + 1) (slots + n.toNatClampNeg) Q lsA b (ad ++ [q1]) A H0 n0 s0 (Cx_push hC hsz ho (by rw [ev1]; exact hP1) (by rw [ev1]; exact hD1) hS1)
theorem x_objInit {idx o : Nat} (hd : decode μ.1 pc = .ok (.invokespecial idx, 3)) (hdd : 1 ≤ d) (hn : o ≠ scrId) (hw : Cond.methodLink μ.2.1.cls idx Lib.objectInit ∈ WA) (hst : (st.map fun v => v.category).sum ≤ 8) (k : X sc d μ (pc + 3) ls st AH r AH') : X sc d μ pc ls (.ref o :: st) AH r AH' := by
  refine ⟨k.1, fun G p l e R s m args below meth c H locs cells slots Q lsA b ad A H0 n0 s0 hC => ?_⟩
  rw [List.map_cons, cv_ref hn]
  have hts := hC.1.2.2.2.2.1
  have hcat : ((st.map (cv b ad)).map fun v => v.category).sum = (st.map fun v => v.category).sum := by
    rw [List.map_map]
    congr 1
    exact List.map_congr_left (fun v _ => cv_cat v)
  refine W.objInit hC.1.1 hC.1.2.1 hC.1.2.2.2.1 (hts _ hw) (hts _ wa_oi1) (hts _ wa_oi2) rfl (hC.2.1.1.trans hC.1.2.2.1.symm) rfl hd (Nat.le_trans hdd hC.2.2.2.2.2.1.1) ?_ (k.2 G p l e R s m args below meth c H locs cells slots Q lsA b ad A H0 n0 s0 hC)
  show 2 * 0 + _ + 12 ≤ R.locals
  rw [hcat]
  have := hC.2.2.2.2.2.1.2
  omega
end NW
/-! a whole method as a contract -/
def aA (ad : List Nat) (sz : Nat) : Nat → Prop := fun q => q ∈ ad ∨ sz ≤ q
def aP (G : cG) (b : Nat) (ad : List Nat) (AH : List AC) (sz : Nat) (U : State) : Prop := U.heap.size = sz ∧ aW G b ad AH U.heap ∧ aK G U
def aQ (G : cG) (b : Nat) (ad : List Nat) (sz : Nat) (r : Option Value) (AH' : List AC) : Array Value → State → Outcome → State → Prop := fun _ st oc t => (∃ ex : List Nat, oc = .returned (r.map (cv b (ad ++ ex))) ∧ aW G b (ad ++ ex) AH' t.heap ∧ ∀ x ∈ ad ++ ex, aA ad sz x) ∧ va_F (aA ad sz) st t
theorem aK_moved {G : cG} {s U : State} (hW : s.WarmedH U.vm) (h : aK G s) : aK G U := ⟨va_K.moved hW.alike h.1, fun q hq => va_Nw.warmM hW (h.2.1 q hq), va_AO.moved hW.alike h.2.2⟩
theorem aK_calling {G : cG} {U : State} {g : JFrame} {mk : MethodId} {a : Array Value} (h : aK G U) : aK G (U.calling g mk a) := ⟨va_K.moved (u := U) (U := U.calling g mk a) (Vm.Alike.refl U.vm) h.1, fun q hq => va_Nw.same rfl rfl (h.2.1 q hq), va_AO.moved (u := U) (U := U.calling g mk a) (Vm.Alike.refl U.vm) h.2.2⟩
theorem lg_sl_one {vs : List Value} (h : ∀ v ∈ vs, v.category = 1) : lg_sl vs = vs.map Slot.val := by
  induction vs with
  | nil => rfl
  | cons v vs ih =>
    have h1 : ¬ v.category = 2 := by have := h v List.mem_cons_self; omega
    have h2 := ih (fun w hw => h w (List.mem_cons_of_mem _ hw))
    simp only [lg_sl] at h2
    simp [lg_sl, h1, h2]
theorem lsOK_entry {b : Nat} {ad : List Nat} {as : List Value} {n : Nat} (hc : ∀ v ∈ as, v.category = 1) (hl : as.length ≤ n) : lsOK ((lg_sl (as.map (cv b ad)) ++ List.replicate (n - (lg_sl (as.map (cv b ad))).length) Slot.unset).toArray) n b ad (lent n as) := by
  have hc2 : ∀ v ∈ as.map (cv b ad), v.category = 1 := by
    intro v hv
    obtain ⟨w, hw, rfl⟩ := List.mem_map.mp hv
    rw [cv_cat]
    exact hc w hw
  have hsl := lg_sl_one hc2
  have h := lv_entry (as.map (cv b ad)) (n := n) (by rw [hsl]; simpa using hl)
  refine ⟨h.1, h.2.1, fun i v hv => ?_⟩
  have hi : i < as.length := by
    rcases Nat.lt_or_ge i as.length with q | q
    · exact q
    · simp only [lent] at hv
      rw [List.getElem?_append_right (by simpa using q)] at hv
      have := List.eq_of_mem_replicate (List.mem_of_getElem? hv)
      cases this
  have hv2 : as[i]? = some v := by
    simp only [lent] at hv
    rw [List.getElem?_append_left (by simpa using hi)] at hv
    rw [List.getElem?_map] at hv
    cases hq : as[i]? with
    | none => rw [hq] at hv; cases hv
    | some w => rw [hq] at hv; simp at hv; rw [hv]
  rw [hsl]
  have hv3 := (List.getElem?_eq_some_iff.mp hv2).2
  simp [hi, List.getElem?_append_left, hv3]
theorem met_of {l : Launch} {h : Nat} {μ : Md} {as : List Value} {AH AH' : List AC} {r : Option Value} (hX : X none h μ 0 (lent μ.2.2.1 as) [] AH r AH') (hc : ∀ v ∈ as, v.category = 1) (hl : as.length ≤ μ.2.2.1) (hp : plainName μ.2.1.cls = true) (G : cG) (b : Nat) (ad : List Nat) (sz : Nat) :
    Met l μ.2.1 (.code μ.2.1 μ.1 μ.2.2.1 μ.2.2.2 :: WA) { frames := h, cells := AH'.length - AH.length, slots := csz AH' - csz AH, locals := 40 * h } (va_Pc (as.map (cv b ad)) (aP G b ad AH sz)) (aQ G b ad sz r AH') (AH'.length - AH.length) (csz AH' - csz AH) (aA ad sz) := by
  refine Met.ofW (cc := μ.1) (maxL := μ.2.2.1) (ret := μ.2.2.2) hp rfl ?_
  intro p e s m args below meth c s₁ B hml hv
  obtain ⟨rfl, hsz, hW, hK⟩ := hv
  have hts := atoms_spec (ws := Cond.code μ.2.1 μ.1 μ.2.2.1 μ.2.2.2 :: WA) B.pre
  have hown : s.vm.findClass μ.2.1.cls = some m.cls := findClass_of_methodNamed B.named
  have hlocks := B.notSynchronized
  have hr := B.returns
  have hnm : meth.name = μ.2.1.name := (name_of_methodNamed B.named B.method).1
  obtain ⟨m1, m2⟩ := hX.1
  rw [lg_entry_eq]
  subst hsz
  refine hX.2 G p l e _ s m _ below meth c s.heap [] 0 0 _ _ b ad (aA ad s.heap.size) s.heap AH.length (csz AH) ⟨⟨B.exec, B.bytes, hml, hown, fun w hw => hts w (List.mem_cons_of_mem _ hw), fun h => hnm.trans h⟩, lsOK_entry hc hl, hW, ⟨hK, trivial⟩, ⟨va_S.rf, fun q hq => Or.inr hq, fun x hx => Or.inl hx⟩, ⟨Nat.le_refl _, Nat.le_refl _⟩, ⟨by omega, by omega, by show _ ≤ (AH'.length - AH.length) + AH.length; omega, by show _ ≤ (csz AH' - csz AH) + csz AH; omega⟩, fun pc' lsB st' ex H' locs' c' s' he hW' hS' hex h1 h2 => ?_⟩
  have e1 : c' = AH'.length - AH.length := by omega
  have e2 : s' = csz AH' - csz AH := by omega
  subst e1; subst e2
  have hq : ∀ t : State, t.heap = H' → s.WarmedH t.vm → aQ G b ad s.heap.size r AH' (as.map (cv b ad)).toArray s (.returned (r.map (cv b (ad ++ ex)))) t := fun t ht _ => ⟨⟨ex, rfl, by rw [ht]; exact hW', hex⟩, hS'.F ht⟩
  rcases he with ⟨hd, rfl, rfl, hrt⟩ | ⟨v, ty, hd, rfl, rfl, hrt, hn⟩ | ⟨v, hd, rfl, rfl, hrt⟩ | ⟨k, C, hd, rfl, rfl, hrt⟩
  · exact W.vret B.exec B.bytes (hr.trans hrt) hq hS'.2.2 hd
  · exact W.zret B.exec B.bytes (hr.trans hrt) hn hq hS'.2.2 hd
  · exact W.dret B.exec B.bytes (hr.trans hrt) hq hS'.2.2 hd
  · exact W.aret B.exec B.bytes (hr.trans hrt) (Or.inl ⟨C, rfl⟩) (Or.inr ⟨_, rfl⟩) hq hS'.2.2 hd
