def MdOK (μ : Md) (n : Nat) : Prop := Cond.initialized μ.2.1.cls ∈ WA ∧ Cond.code μ.2.1 μ.1 μ.2.2.1 μ.2.2.2 ∈ WA ∧ (μ.2.1.cls ≠ "java/lang/invoke/MethodHandle" ∧ μ.2.1.cls ≠ "java/lang/invoke/VarHandle") ∧ plainName μ.2.1.cls = true ∧ (parseMethodDescriptor μ.2.1.desc).map (fun d => d.parameters.length) = some n ∧ μ.2.2.1 ≤ 20
def MdV (μ : Md) (n : Nat) : Prop := MdOK μ n ∧ Cond.instanceMethod μ.2.1 ∈ WA ∧ Cond.selects μ.2.1.cls μ.2.1 μ.2.1 ∈ WA
def MdS (μ : Md) (n : Nat) : Prop := MdOK μ n ∧ Cond.static μ.2.1 ∈ WA
def MdI (μ : Md) (n : Nat) : Prop := MdOK μ n ∧ Cond.instanceMethod μ.2.1 ∈ WA ∧ μ.2.1.name = "<init>" ∧ μ.2.2.2 = none
theorem w_call {p : Program} {l : Launch} {e : Env} {R : Room} {s : State} {m : MethodId} {args : Array Value} {below : List Frame} {meth : Method} {c : Code} {H : Heap} {locs : List Loc} {cells slots mc ms : Nat} {Q : State → Prop} {pc : Nat} {lsA : Array Slot} {st0 rest : List Value} {Qa : State → Outcome → State → Prop} {free : Addr → Prop}
    (hr : va_Run p l e R s m args below meth c H locs cells slots mc ms (F0 m pc lsA st0) rest Qa free)
    (kk : ∀ (v : Option Value) (st₀ t : State) (H1 : Heap) (L : List Loc), st₀.heap = H → t.heap = H1 → Qa st₀ (.returned v) t → (∀ q ∈ L, free q.base) → W p l e R s m args below meth c H1 (locs ++ L) (cells + mc) (slots + ms) Q (F0 m (pc + 3) lsA (v.toList ++ rest))) : W p l e R s m args below meth c H locs cells slots Q (F0 m pc lsA st0) := by
  intro T hT X
  obtain ⟨v, st₀, t, T', L, h0, X', hL, e1, e2, hq, st⟩ := hr T hT X
  obtain ⟨t2, a1, b1⟩ := kk v st₀ t T'.heap L h0 e1.symm hq hL T' rfl X'
  exact ⟨t2, st t2 a1, b1⟩
section CL
variable {sc : cS} {d h : Nat} {μ μ' : Md} {pc idx n : Nat} {ls : List (Option Value)} {st as : List Value} {AH AH1 AH' : List AC} {r r1 : Option Value}
theorem x_call_aux {ls0 : List (Option Value)} (hX : X none h μ' 0 ls0 [] AH r1 AH1) (k : X sc d μ (pc + 3) ls (r1.toList ++ st) AH1 r AH') (hext : AH1.length = AH.length ∨ okS AH ls st = true)
    {G : cG} {p : Program} {l : Launch} {e : Env} {R : Room} {s : State} {m : MethodId} {args : Array Value} {below : List Frame} {meth : Method} {c : Code} {H : Heap} {locs : List Loc} {cells slots : Nat} {Q : State → Prop} {lsA : Array Slot} {b : Nat} {ad : List Nat} {A : Nat → Prop} {H0 : Heap} {n0 s0 : Nat} (hC : Cx sc G μ d ls AH r AH' p l e R s m args below meth c H locs cells slots Q lsA b ad A H0 n0 s0) {stk : List Value} {a' : Array Value}
    (hr : va_Run p l e R s m args below meth c H locs cells slots (AH1.length - AH.length) (csz AH1 - csz AH) (F0 m pc lsA stk) (st.map (cv b ad)) (aQ G b ad H.size r1 AH1 a') (aA ad H.size)) : W p l e R s m args below meth c H locs cells slots Q (F0 m pc lsA stk) := by
  refine w_call hr (fun v st₀ t H1 L h0 ht hq hL => ?_)
  obtain ⟨h1, h2, h3, h4, ⟨h5, h6, h7⟩, h8, ⟨h9, h10, h11, h12⟩, h13⟩ := hC
  obtain ⟨⟨ex, hv, hW1, hex⟩, hF1, hF2⟩ := hq
  have hv2 : v = r1.map (cv b (ad ++ ex)) := by injection hv
  subst hv2
  rw [h0] at hF1 hF2
  subst ht
  have hA1 : ∀ x, aA ad H.size x → A x := fun x hx => hx.elim (h7 x) (fun q => h6 x (Nat.le_trans h5.1 q))
  have hst : st.map (cv b ad) = st.map (cv b (ad ++ ex)) ∧ lsOK lsA μ.2.2.1 b (ad ++ ex) ls := by
    rcases hext with q | q
    · have : ex = [] := by
        have := hW1.1
        rw [List.length_append, h3.1, q] at this
        exact List.eq_nil_of_length_eq_zero (by omega)
      subst this
      rw [List.append_nil]
      exact ⟨rfl, h2⟩
    · obtain ⟨-, o2, o3, -⟩ := okS_spec q
      rw [← h3.1] at o2 o3
      exact ⟨(st_ext o3).symm, lsOK_ext h2 o2⟩
  have hstk : (r1.map (cv b (ad ++ ex))).toList ++ st.map (cv b ad) = (r1.toList ++ st).map (cv b (ad ++ ex)) := by
    rw [List.map_append, hst.1]
    cases r1 <;> rfl
  rw [hstk]
  obtain ⟨m1, m2⟩ := hX.1
  refine k.2 G p l e R s m args below meth c t.heap (locs ++ L) _ _ Q lsA b (ad ++ ex) A H0 n0 s0 ⟨h1, hst.2, hW1, h4, ⟨⟨Nat.le_trans h5.1 hF1, fun q g1 g2 => ?_, fun q hq => ?_⟩, h6, fun x hx => hA1 x (hex x hx)⟩, h8, ⟨by omega, by omega, h11, h12⟩, fun pc' lsB st' ex' H' locs' c' s' e1 e2 e3 e4 e5 e6 => ?_⟩
  · rw [hF2 q (Nat.lt_of_lt_of_le g1 h5.1) (fun z => g2 (hA1 q z))]
    exact h5.2.1 q g1 g2
  · rcases List.mem_append.mp hq with z | z
    · exact h5.2.2 q z
    · exact hA1 _ (hL q z)
  · rw [List.append_assoc] at e2 e4 ⊢
    exact h13 pc' lsB st' (ex ++ ex') H' locs' c' s' e1 e2 e3 e4 e5 e6
theorem cat_map {b : Nat} {ad : List Nat} : ((st.map (cv b ad)).map fun v => v.category).sum = (st.map fun v => v.category).sum := by
  rw [List.map_map]
  congr 1
  exact List.map_congr_left (fun v _ => cv_cat v)
theorem aP_blind {G : cG} {b sz : Nat} {ad : List Nat} {av : List Value} : FrameBlind (va_Pc av (aP G b ad AH sz)) := fun _ _ _ _ q => ⟨q.1, q.2.1, q.2.2.1, aK_calling q.2.2.2⟩
theorem aP_at {G : cG} {b : Nat} {ad : List Nat} {av : List Value} {s : State} {H : Heap} (hW : aW G b ad AH H) (hK : aK G s) : ∀ U : State, U.heap = H → s.WarmedH U.vm → va_Pc av (aP G b ad AH H.size) av.toArray U := fun U hU hV => ⟨rfl, by rw [hU], by rw [hU]; exact hW, aK_moved hV hK⟩
theorem callB_ok {R : Room} {s : State} {args : Array Value} {mc ms : Nat} (hm : MdOK μ' n) (hts : ∀ w ∈ WA, w.before args s = true) (hw : (Cond.methodLink μ.2.1.cls idx μ'.2.1) ∈ WA) (hh : h + 1 ≤ d) (h8 : d ≤ R.frames ∧ 40 * d ≤ R.locals) :
    CallB R s args μ.2.1.cls idx μ'.2.1 μ'.1 μ'.2.2.1 μ'.2.2.2 (.code μ'.2.1 μ'.1 μ'.2.2.1 μ'.2.2.2 :: WA) { frames := h, cells := mc, slots := ms, locals := 40 * h } mc ms n := by
  obtain ⟨k1, k2, k3, k4, k5, k6⟩ := hm
  refine ⟨rfl, rfl, by show h + 1 ≤ R.frames; omega, by show 8 + (μ'.2.2.1 + 11) + 40 * h ≤ R.locals; omega, pay_in hts (fun w hw => ?_), List.mem_cons_self, hts _ k2, hts _ k1, k3, fun sig hs => ?_, hts _ hw⟩
  · rcases List.mem_cons.mp hw with rfl | hw
    · exact wa_good _ k2
    · exact wa_good _ hw
  · rw [hs] at k5
    exact (Option.some.inj k5).symm
theorem x_callV {o ci : Nat} {fs stk : List Value} {q : vw_C} (hm : MdV μ' n) (hw : (Cond.methodLink μ.2.1.cls idx μ'.2.1) ∈ WA) (hd : decode μ.1 pc = .ok (.invokevirtual idx, 3)) (hs : stk = as.reverse ++ .ref o :: st) (hX : X none h μ' 0 (lent μ'.2.2.1 (.ref o :: as)) [] AH r1 AH1) (hh : h + 1 ≤ d) (hn : as.length = n) (hc : ∀ v ∈ as, v.category = 1) (hl : as.length + 1 ≤ μ'.2.2.1) (hno : o ≠ scrId) (ho : AH[o]? = some (.inl (ci, fs))) (hq : vwCl[ci]? = some q) (hcq : μ'.2.1.cls = q.1) (hst : (st.map fun v => v.category).sum ≤ 8) (hext : AH1.length = AH.length ∨ okS AH ls st = true) (k : X sc d μ (pc + 3) ls (r1.toList ++ st) AH1 r AH') : X sc d μ pc ls stk AH r AH' := by
  obtain ⟨m1, m2⟩ := hX.1
  obtain ⟨g1, g2⟩ := k.1
  refine ⟨⟨by omega, by omega⟩, fun G p l e R s m args below meth c H locs cells slots Q lsA b ad A H0 n0 s0 hC => ?_⟩
  have hts := hC.1.2.2.2.2.1
  obtain ⟨f1, f2, f3, f4⟩ := hC.2.2.2.2.2.2.1
  have hM := met_of (l := l) hX (fun v hv => (List.mem_cons.mp hv).elim (fun z => by rw [z]; rfl) (hc v)) hl hm.1.2.2.2.1 G b ad H.size
  rw [List.map_cons, cv_ref hno] at hM
  refine x_call_aux hX k hext hC (a' := (Value.ref (ad.getD o 0) :: as.map (cv b ad)).toArray) (va_runV (C := μ'.2.1.cls) (b := ad.getD o 0) (As := as.map (cv b ad)) ⟨hC.1.1, hC.1.2.1, hC.1.2.2.1, hC.1.2.2.2.1, hts⟩ hM ⟨callB_ok hm.1 hts hw hh hC.2.2.2.2.2.1, hts _ hm.2.1, hts _ hm.2.2⟩ ⟨aP_blind, ?_, aP_at hC.2.2.1 hC.2.2.2.1.1⟩ rfl (by simpa using hn) hC.2.1.1 ?_ ?_ hd ⟨by omega, by omega⟩)
  · rw [hcq]
    exact va_recv hC.2.2.2.1.1.1 hC.2.2.1.2.1 (q0 := o) hq (wsl_get ho)
  · show stk.map (cv b ad) = _
    rw [hs]
    simp [List.map_reverse, cv_ref hno]
  · show 2 * 0 + _ ≤ 8
    rw [cat_map]
    omega
theorem x_callS {stk : List Value} (hm : MdS μ' n) (hw : (Cond.methodLink μ.2.1.cls idx μ'.2.1) ∈ WA) (hd : decode μ.1 pc = .ok (.invokestatic idx, 3)) (hs : stk = as.reverse ++ st) (hX : X none h μ' 0 (lent μ'.2.2.1 as) [] AH r1 AH1) (hh : h + 1 ≤ d) (hn : as.length = n) (hc : ∀ v ∈ as, v.category = 1) (hl : as.length ≤ μ'.2.2.1) (hst : (st.map fun v => v.category).sum ≤ 8) (hext : AH1.length = AH.length ∨ okS AH ls st = true) (k : X sc d μ (pc + 3) ls (r1.toList ++ st) AH1 r AH') : X sc d μ pc ls stk AH r AH' := by
  obtain ⟨m1, m2⟩ := hX.1
  obtain ⟨g1, g2⟩ := k.1
  refine ⟨⟨by omega, by omega⟩, fun G p l e R s m args below meth c H locs cells slots Q lsA b ad A H0 n0 s0 hC => ?_⟩
  have hts := hC.1.2.2.2.2.1
  obtain ⟨f1, f2, f3, f4⟩ := hC.2.2.2.2.2.2.1
  have hM := met_of (l := l) hX hc hl hm.1.2.2.2.1 G b ad H.size
  refine x_call_aux hX k hext hC (a' := (as.map (cv b ad)).toArray) (va_runS (As := as.map (cv b ad)) ⟨hC.1.1, hC.1.2.1, hC.1.2.2.1, hC.1.2.2.2.1, hts⟩ hM ⟨callB_ok hm.1 hts hw hh hC.2.2.2.2.2.1, hts _ hm.2⟩ ⟨aP_blind, aP_at hC.2.2.1 hC.2.2.2.1.1⟩ rfl (by simpa using hn) hC.2.1.1 ?_ ?_ hd ⟨by omega, by omega⟩)
  · show stk.map (cv b ad) = _
    rw [hs]
    simp [List.map_reverse]
  · show 2 * 0 + _ ≤ 8
    rw [cat_map]
    omega
theorem x_callI {o : Nat} {stk : List Value} (hm : MdI μ' n) (hw : (Cond.methodLink μ.2.1.cls idx μ'.2.1) ∈ WA) (hd : decode μ.1 pc = .ok (.invokespecial idx, 3)) (hs : stk = as.reverse ++ .ref o :: st) (hX : X none h μ' 0 (lent μ'.2.2.1 (.ref o :: as)) [] AH r1 AH1) (hh : h + 1 ≤ d) (hn : as.length = n) (hc : ∀ v ∈ as, v.category = 1) (hl : as.length + 1 ≤ μ'.2.2.1) (hno : o ≠ scrId) (hst : (st.map fun v => v.category).sum ≤ 8) (hext : AH1.length = AH.length ∨ okS AH ls st = true) (k : X sc d μ (pc + 3) ls (r1.toList ++ st) AH1 r AH') : X sc d μ pc ls stk AH r AH' := by
  obtain ⟨m1, m2⟩ := hX.1
  obtain ⟨g1, g2⟩ := k.1
  refine ⟨⟨by omega, by omega⟩, fun G p l e R s m args below meth c H locs cells slots Q lsA b ad A H0 n0 s0 hC => ?_⟩
  have hts := hC.1.2.2.2.2.1
  obtain ⟨f1, f2, f3, f4⟩ := hC.2.2.2.2.2.2.1
  have hM := met_of (l := l) hX (fun v hv => (List.mem_cons.mp hv).elim (fun z => by rw [z]; rfl) (hc v)) hl hm.1.2.2.2.1 G b ad H.size
  rw [List.map_cons, cv_ref hno] at hM
  have hB : CallB R s args μ.2.1.cls idx μ'.2.1 μ'.1 μ'.2.2.1 none (.code μ'.2.1 μ'.1 μ'.2.2.1 μ'.2.2.2 :: WA) { frames := h, cells := AH1.length - AH.length, slots := csz AH1 - csz AH, locals := 40 * h } (AH1.length - AH.length) (csz AH1 - csz AH) n := by
    have h1 := callB_ok (μ := μ) (mc := AH1.length - AH.length) (ms := csz AH1 - csz AH) hm.1 hts hw hh hC.2.2.2.2.2.1
    rw [hm.2.2.2] at h1 ⊢
    exact h1
  refine x_call_aux hX k hext hC (a' := (Value.ref (ad.getD o 0) :: as.map (cv b ad)).toArray) (va_runI (b := ad.getD o 0) (As := as.map (cv b ad)) ⟨hC.1.1, hC.1.2.1, hC.1.2.2.1, hC.1.2.2.2.1, hts⟩ hM ⟨hB, hm.2.2.1, hts _ hm.2.1⟩ ⟨aP_blind, aP_at hC.2.2.1 hC.2.2.2.1.1⟩ rfl (by simpa using hn) hC.2.1.1 ?_ ?_ hd ⟨by omega, by omega⟩)
  · show stk.map (cv b ad) = _
    rw [hs]
    simp [List.map_reverse, cv_ref hno]
  · show 2 * 0 + _ ≤ 8
    rw [cat_map]
    omega
theorem cn_ok {R : Room} {s : State} {args : Array Value} {mc ms : Nat} {ret : Option FieldType} (hret : μ'.2.2.2 = ret) (hm : MdOK μ' n) (hts : ∀ w ∈ WA, w.before args s = true) (hw : va_Nw (.methodLinkNest μ.2.1.cls idx μ'.2.1 "BarterRings") s) (hh : h + 1 ≤ d) (h8 : d ≤ R.frames ∧ 40 * d ≤ R.locals) :
    va_CN R s args μ.2.1.cls idx μ'.2.1 "BarterRings" μ'.1 μ'.2.2.1 ret (.code μ'.2.1 μ'.1 μ'.2.2.1 μ'.2.2.2 :: WA) { frames := h, cells := mc, slots := ms, locals := 40 * h } mc ms n := by
  subst hret
  obtain ⟨k1, k2, k3, k4, k5, k6⟩ := hm
  refine ⟨⟨rfl, rfl, by show h + 1 ≤ R.frames; omega, by show 8 + (μ'.2.2.1 + 11) + 40 * h ≤ R.locals; omega, pay_in hts (fun w hw => ?_), List.mem_cons_self⟩, hts _ k2, hts _ k1, k3, fun sig hs => ?_, va_Nw.use rfl hw⟩
  · rcases List.mem_cons.mp hw with rfl | hw
    · exact wa_good _ k2
    · exact wa_good _ hw
  · rw [hs] at k5
    exact (Option.some.inj k5).symm
theorem x_callSN {stk : List Value} (hm : MdS μ' n) (hw : (μ.2.1.cls, idx, μ'.2.1) ∈ nests) (hd : decode μ.1 pc = .ok (.invokestatic idx, 3)) (hs : stk = as.reverse ++ st) (hX : X none h μ' 0 (lent μ'.2.2.1 as) [] AH r1 AH1) (hh : h + 1 ≤ d) (hn : as.length = n) (hc : ∀ v ∈ as, v.category = 1) (hl : as.length ≤ μ'.2.2.1) (hst : (st.map fun v => v.category).sum ≤ 8) (hext : AH1.length = AH.length ∨ okS AH ls st = true) (k : X sc d μ (pc + 3) ls (r1.toList ++ st) AH1 r AH') : X sc d μ pc ls stk AH r AH' := by
  obtain ⟨m1, m2⟩ := hX.1
  obtain ⟨g1, g2⟩ := k.1
  refine ⟨⟨by omega, by omega⟩, fun G p l e R s m args below meth c H locs cells slots Q lsA b ad A H0 n0 s0 hC => ?_⟩
  have hts := hC.1.2.2.2.2.1
  obtain ⟨f1, f2, f3, f4⟩ := hC.2.2.2.2.2.2.1
  have hM := met_of (l := l) hX hc hl hm.1.2.2.2.1 G b ad H.size
  have hN := hC.2.2.2.1.1.2.1 _ hw
  refine x_call_aux hX k hext hC (a' := (as.map (cv b ad)).toArray) (va_runSN (As := as.map (cv b ad)) ⟨hC.1.1, hC.1.2.1, hC.1.2.2.1, hC.1.2.2.2.1, hts⟩ hM ⟨cn_ok rfl hm.1 hts hN hh hC.2.2.2.2.2.1, hts _ hm.2, trivial⟩ ⟨aP_blind, aP_at hC.2.2.1 hC.2.2.2.1.1⟩ rfl (by simpa using hn) hC.2.1.1 ?_ ?_ hd ⟨by omega, by omega⟩)
  · show stk.map (cv b ad) = _
    rw [hs]
    simp [List.map_reverse]
  · show 2 * 0 + _ ≤ 8
    rw [cat_map]
    omega
theorem x_callIN {o : Nat} {stk : List Value} (hm : MdI μ' n) (hw : (μ.2.1.cls, idx, μ'.2.1) ∈ nests) (hd : decode μ.1 pc = .ok (.invokespecial idx, 3)) (hs : stk = as.reverse ++ .ref o :: st) (hX : X none h μ' 0 (lent μ'.2.2.1 (.ref o :: as)) [] AH r1 AH1) (hh : h + 1 ≤ d) (hn : as.length = n) (hc : ∀ v ∈ as, v.category = 1) (hl : as.length + 1 ≤ μ'.2.2.1) (hno : o ≠ scrId) (hst : (st.map fun v => v.category).sum ≤ 8) (hext : AH1.length = AH.length ∨ okS AH ls st = true) (k : X sc d μ (pc + 3) ls (r1.toList ++ st) AH1 r AH') : X sc d μ pc ls stk AH r AH' := by
  obtain ⟨m1, m2⟩ := hX.1
  obtain ⟨g1, g2⟩ := k.1
  refine ⟨⟨by omega, by omega⟩, fun G p l e R s m args below meth c H locs cells slots Q lsA b ad A H0 n0 s0 hC => ?_⟩
  have hts := hC.1.2.2.2.2.1
  obtain ⟨f1, f2, f3, f4⟩ := hC.2.2.2.2.2.2.1
  have hM := met_of (l := l) hX (fun v hv => (List.mem_cons.mp hv).elim (fun z => by rw [z]; rfl) (hc v)) hl hm.1.2.2.2.1 G b ad H.size
  rw [List.map_cons, cv_ref hno] at hM
  have hN := hC.2.2.2.1.1.2.1 _ hw
  refine x_call_aux hX k hext hC (a' := (Value.ref (ad.getD o 0) :: as.map (cv b ad)).toArray) (va_runIN (b := ad.getD o 0) (As := as.map (cv b ad)) ⟨hC.1.1, hC.1.2.1, hC.1.2.2.1, hC.1.2.2.2.1, hts⟩ hM ⟨cn_ok hm.2.2.2 hm.1 hts hN hh hC.2.2.2.2.2.1, hm.2.2.1, hts _ hm.2.1⟩ ⟨aP_blind, aP_at hC.2.2.1 hC.2.2.2.1.1⟩ rfl (by simpa using hn) hC.2.1.1 ?_ ?_ hd ⟨by omega, by omega⟩)
  · show stk.map (cv b ad) = _
    rw [hs]
    simp [List.map_reverse, cv_ref hno]
  · show 2 * 0 + _ ≤ 8
    rw [cat_map]
    omega
/-! the law's own script -/
theorem x_sld {L : Nat} {xs : Nat → Int32} {i : Int32} (hd : decode μ.1 pc = .ok (.iaload, 1)) (hi : vp_in i L) (k : X (some (L, xs)) d μ (pc + 1) ls (.int (xs i.toNatClampNeg) :: st) AH r AH') : X (some (L, xs)) d μ pc ls (.int i :: .ref scrId :: st) AH r AH' := by
  refine ⟨k.1, fun G p l e R s m args below meth c H locs cells slots Q lsA b ad A H0 n0 s0 hC => ?_⟩
  obtain ⟨hX, hbl, hbA⟩ := hC.2.2.2.1.2
  have e1 : cv b ad (.ref scrId) = .ref b := by simp [cv]
  rw [List.map_cons, List.map_cons, e1]
  exact va_sld hC.1.1 hC.1.2.1 hX hbl hbA hC.2.2.2.2.1.1 hi hd (k.2 G p l e R s m args below meth c H locs cells slots Q lsA b ad A H0 n0 s0 hC)
theorem x_slen {L : Nat} {xs : Nat → Int32} (hd : decode μ.1 pc = .ok (.arraylength, 1)) (k : X (some (L, xs)) d μ (pc + 1) ls (.int (Int32.ofNat L) :: st) AH r AH') : X (some (L, xs)) d μ pc ls (.ref scrId :: st) AH r AH' := by
  refine ⟨k.1, fun G p l e R s m args below meth c H locs cells slots Q lsA b ad A H0 n0 s0 hC => ?_⟩
  obtain ⟨hX, hbl, hbA⟩ := hC.2.2.2.1.2
  have e1 : cv b ad (.ref scrId) = .ref b := by simp [cv]
  rw [List.map_cons, e1]
  exact va_slen hC.1.1 hC.1.2.1 hX hbl hbA hC.2.2.2.2.1.1 hd (k.2 G p l e R s m args below meth c H locs cells slots Q lsA b ad A H0 n0 s0 hC)
/-- more room, or other locals -/
theorem X.more {d' : Nat} (hd : d ≤ d') (k : X sc d μ pc ls st AH r AH') : X sc d' μ pc ls st AH r AH' := ⟨k.1, fun G p l e R s m args below meth c H locs cells slots Q lsA b ad A H0 n0 s0 hC => k.2 G p l e R s m args below meth c H locs cells slots Q lsA b ad A H0 n0 s0 ⟨hC.1, hC.2.1, hC.2.2.1, hC.2.2.2.1, hC.2.2.2.2.1, ⟨by have := hC.2.2.2.2.2.1.1; omega, by have := hC.2.2.2.2.2.1.2; omega⟩, hC.2.2.2.2.2.2⟩⟩
theorem X.lsw {ls' : List (Option Value)} (hl : ∀ (i : Nat) (v : Value), ls'[i]? = some (some v) → ls[i]? = some (some v)) (k : X sc d μ pc ls' st AH r AH') : X sc d μ pc ls st AH r AH' := ⟨k.1, fun G p l e R s m args below meth c H locs cells slots Q lsA b ad A H0 n0 s0 hC => k.2 G p l e R s m args below meth c H locs cells slots Q lsA b ad A H0 n0 s0 (Cx_ls hC ⟨hC.2.1.1, hC.2.1.2.1, fun i v h => hC.2.1.2.2 i v (hl i v h)⟩)⟩
end CL
