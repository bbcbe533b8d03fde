/-! a static method that is given the script -/
def aPs (G : cG) (b : Nat) (ad : List Nat) (AH : List AC) (sz L : Nat) (xs : Nat → Int32) (U : State) : Prop := aP G b ad AH sz U ∧ va_X b L xs U U.heap ∧ b < sz ∧ ¬ b ∈ ad
theorem met_ofS {l : Launch} {h : Nat} {μ : Md} {as : List Value} {AH AH' : List AC} {r : Option Value} {L : Nat} {xs : Nat → Int32} (hX : X (some (L, xs)) h μ 0 (lent μ.2.2.1 as) [] AH r AH') (hc : ∀ v ∈ as, v.category = 1) (hl : as.length ≤ μ.2.2.1) (hp : plainName μ.2.1.cls = true) (G : cG) (b : Nat) (ad : List Nat) (sz : Nat) :
    Met l μ.2.1 (.code μ.2.1 μ.1 μ.2.2.1 μ.2.2.2 :: WA) { frames := h, cells := AH'.length - AH.length, slots := csz AH' - csz AH, locals := 40 * h } (va_Pc (as.map (cv b ad)) (aPs G b ad AH sz L xs)) (aQ G b ad sz r AH') (AH'.length - AH.length) (csz AH' - csz AH) (aA ad sz) := by
  refine Met.ofW (cc := μ.1) (maxL := μ.2.2.1) (ret := μ.2.2.2) hp rfl ?_
  intro p e s m args below meth c s₁ B hml hv
  obtain ⟨rfl, ⟨hsz, hW, hK⟩, hsX, hsb, hsa⟩ := hv
  have hts := atoms_spec (ws := Cond.code μ.2.1 μ.1 μ.2.2.1 μ.2.2.2 :: WA) B.pre
  have hown : s.vm.findClass μ.2.1.cls = some m.cls := findClass_of_methodNamed B.named
  have hlocks := B.notSynchronized
  have hr := B.returns
  have hnm : meth.name = μ.2.1.name := (name_of_methodNamed B.named B.method).1
  obtain ⟨m1, m2⟩ := hX.1
  rw [lg_entry_eq]
  subst hsz
  refine hX.2 G p l e _ s m _ below meth c s.heap [] 0 0 _ _ b ad (aA ad s.heap.size) s.heap AH.length (csz AH) ⟨⟨B.exec, B.bytes, hml, hown, fun w hw => hts w (List.mem_cons_of_mem _ hw), fun h => hnm.trans h⟩, lsOK_entry hc hl, hW, ⟨hK, hsX, hsb, fun q => q.elim hsa (fun z => absurd hsb (Nat.not_lt.mpr z))⟩, ⟨va_S.rf, fun q hq => Or.inr hq, fun x hx => Or.inl hx⟩, ⟨Nat.le_refl _, Nat.le_refl _⟩, ⟨by omega, by omega, by show _ ≤ (AH'.length - AH.length) + AH.length; omega, by show _ ≤ (csz AH' - csz AH) + csz AH; omega⟩, fun pc' lsB st' ex H' locs' c' s' he hW' hS' hex h1 h2 => ?_⟩
  have e1 : c' = AH'.length - AH.length := by omega
  have e2 : s' = csz AH' - csz AH := by omega
  subst e1; subst e2
  have hq : ∀ t : State, t.heap = H' → s.WarmedH t.vm → aQ G b ad s.heap.size r AH' (as.map (cv b ad)).toArray s (.returned (r.map (cv b (ad ++ ex)))) t := fun t ht _ => ⟨⟨ex, rfl, by rw [ht]; exact hW', hex⟩, hS'.F ht⟩
  rcases he with ⟨hd, rfl, rfl, hrt⟩ | ⟨v, ty, hd, rfl, rfl, hrt, hn⟩ | ⟨v, hd, rfl, rfl, hrt⟩ | ⟨k, C, hd, rfl, rfl, hrt⟩
  · exact W.vret B.exec B.bytes (hr.trans hrt) hq hS'.2.2 hd
  · exact W.zret B.exec B.bytes (hr.trans hrt) hn hq hS'.2.2 hd
  · exact W.dret B.exec B.bytes (hr.trans hrt) hq hS'.2.2 hd
  · exact W.aret B.exec B.bytes (hr.trans hrt) (Or.inl ⟨C, rfl⟩) (Or.inr ⟨_, rfl⟩) hq hS'.2.2 hd
theorem x_call_auxS {sc sc' : cS} {d h : Nat} {μ μ' : Md} {pc : Nat} {ls : List (Option Value)} {st : List Value} {AH AH1 AH' : List AC} {r r1 : Option Value} {ls0 : List (Option Value)} (hX : X sc' h μ' 0 ls0 [] AH r1 AH1) (k : X sc d μ (pc + 3) ls (r1.toList ++ st) AH1 r AH') (hext : AH1.length = AH.length)
    {G : cG} {p : Program} {l : Launch} {e : Env} {R : Room} {s : State} {m : MethodId} {args : Array Value} {below : List Frame} {meth : Method} {c : Code} {H : Heap} {locs : List Loc} {cells slots : Nat} {Q : State → Prop} {lsA : Array Slot} {b : Nat} {ad : List Nat} {A : Nat → Prop} {H0 : Heap} {n0 s0 : Nat} (hC : Cx sc G μ d ls AH r AH' p l e R s m args below meth c H locs cells slots Q lsA b ad A H0 n0 s0) {stk : List Value} {a' : Array Value}
    (hr : va_Run p l e R s m args below meth c H locs cells slots (AH1.length - AH.length) (csz AH1 - csz AH) (F0 m pc lsA stk) (st.map (cv b ad)) (aQ G b ad H.size r1 AH1 a') (aA ad H.size)) : W p l e R s m args below meth c H locs cells slots Q (F0 m pc lsA stk) := by
  refine w_call hr (fun v st₀ t H1 L h0 ht hq hL => ?_)
  obtain ⟨h1, h2, h3, h4, ⟨h5, h6, h7⟩, h8, ⟨h9, h10, h11, h12⟩, h13⟩ := hC
  obtain ⟨⟨ex, hv, hW1, hex⟩, hF1, hF2⟩ := hq
  have hv2 : v = r1.map (cv b (ad ++ ex)) := by injection hv
  subst hv2
  rw [h0] at hF1 hF2
  subst ht
  have hA1 : ∀ x, aA ad H.size x → A x := fun x hx => hx.elim (h7 x) (fun q => h6 x (Nat.le_trans h5.1 q))
  have : ex = [] := by
    have := hW1.1
    rw [List.length_append, h3.1, hext] at this
    exact List.eq_nil_of_length_eq_zero (by omega)
  subst this
  rw [List.append_nil] at hW1 hex
  rw [List.append_nil]
  have hstk : (r1.map (cv b ad)).toList ++ st.map (cv b ad) = (r1.toList ++ st).map (cv b ad) := by
    rw [List.map_append]
    cases r1 <;> rfl
  rw [hstk]
  obtain ⟨m1, m2⟩ := hX.1
  refine k.2 G p l e R s m args below meth c t.heap (locs ++ L) _ _ Q lsA b ad A H0 n0 s0 ⟨h1, h2, hW1, h4, ⟨⟨Nat.le_trans h5.1 hF1, fun q g1 g2 => ?_, fun q hq => ?_⟩, h6, fun x hx => hA1 x (hex x hx)⟩, h8, ⟨by omega, by omega, h11, h12⟩, h13⟩
  · rw [hF2 q (Nat.lt_of_lt_of_le g1 h5.1) (fun z => g2 (hA1 q z))]
    exact h5.2.1 q g1 g2
  · rcases List.mem_append.mp hq with z | z
    · exact h5.2.2 q z
    · exact hA1 _ (hL q z)
theorem x_callC {d h : Nat} {μ μ' : Md} {pc idx n : Nat} {ls : List (Option Value)} {st as : List Value} {AH AH1 AH' : List AC} {r r1 : Option Value} {L : Nat} {xs : Nat → Int32} {stk : List Value} (hm : MdS μ' n) (hw : (Cond.methodLink μ.2.1.cls idx μ'.2.1) ∈ WA) (hd : decode μ.1 pc = .ok (.invokestatic idx, 3)) (hs : stk = as.reverse ++ st) (hX : X (some (L, xs)) h μ' 0 (lent μ'.2.2.1 as) [] AH r1 AH1) (hh : h + 1 ≤ d) (hn : as.length = n) (hc : ∀ v ∈ as, v.category = 1) (hl : as.length ≤ μ'.2.2.1) (hst : (st.map fun v => v.category).sum ≤ 8) (hext : AH1.length = AH.length) (k : X (some (L, xs)) d μ (pc + 3) ls (r1.toList ++ st) AH1 r AH') : X (some (L, xs)) d μ pc ls stk AH r AH' := by
  obtain ⟨m1, m2⟩ := hX.1
  obtain ⟨g1, g2⟩ := k.1
  refine ⟨⟨by omega, by omega⟩, fun G p l e R s m args below meth c H locs cells slots Q lsA b ad A H0 n0 s0 hC => ?_⟩
  have hts := hC.1.2.2.2.2.1
  obtain ⟨f1, f2, f3, f4⟩ := hC.2.2.2.2.2.2.1
  have hM := met_ofS (l := l) hX hc hl hm.1.2.2.2.1 G b ad H.size
  obtain ⟨hsX, hsb, hsa⟩ := hC.2.2.2.1.2
  have hS := hC.2.2.2.2.1.1
  refine x_call_auxS hX k hext hC (a' := (as.map (cv b ad)).toArray) (va_runS (As := as.map (cv b ad)) ⟨hC.1.1, hC.1.2.1, hC.1.2.2.1, hC.1.2.2.2.1, hts⟩ hM ⟨callB_ok hm.1 hts hw hh hC.2.2.2.2.2.1, hts _ hm.2⟩ ⟨fun _ _ _ _ q => ⟨q.1, ⟨q.2.1.1, q.2.1.2.1, aK_calling q.2.1.2.2⟩, va_X.moved (Vm.Alike.refl _) q.2.2.1, q.2.2.2⟩, fun U hU hV => ?_⟩ rfl (by simpa using hn) hC.2.1.1 ?_ ?_ hd ⟨by omega, by omega⟩)
  · refine ⟨rfl, ⟨by rw [hU], by rw [hU]; exact hC.2.2.1, aK_moved hV hC.2.2.2.1.1⟩, ?_, Nat.lt_of_lt_of_le hsb hS.1, fun z => hsa (hC.2.2.2.2.1.2.2 b z)⟩
    rw [hU]
    exact va_X.moved hV.alike (va_X.kept hsX (hS.2.1 b hsb hsa))
  · show stk.map (cv b ad) = _
    rw [hs]
    simp [List.map_reverse]
  · show 2 * 0 + _ ≤ 8
    rw [cat_map]
    omega
theorem q_callC {d h : Nat} {μ μ' : Md} {pc idx n : Nat} {ls : List (Option Value)} {st as : List Value} {M : Mem} {r r1 : Option Value} {Q : Mem → Prop} {L : Nat} {xs : Nat → Int32} {stk : List Value} (hm : MdS μ' n) (hw : (Cond.methodLink μ.2.1.cls idx μ'.2.1) ∈ WA) (hd : decode μ.1 pc = .ok (.invokestatic idx, 3)) (hs : stk = as.reverse ++ st) (hX : X (some (L, xs)) h μ' 0 (lent μ'.2.2.1 as) [] (emb M) r1 (emb M)) (hh : h + 1 ≤ d) (hn : as.length = n) (hc : ∀ v ∈ as, v.category = 1) (hl : as.length ≤ μ'.2.2.1) (hst : (st.map fun v => v.category).sum ≤ 8) (k : YQ (some (L, xs)) d μ (pc + 3) ls (r1.toList ++ st) M r Q) : YQ (some (L, xs)) d μ pc ls stk M r Q := by
  obtain ⟨M9, b1, b2⟩ := k
  exact ⟨M9, x_callC hm hw hd hs hX hh hn hc hl hst rfl b1, b2⟩
