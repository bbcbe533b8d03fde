/-- the class' market: copies, takes, makes -/
def cf7 (M : Mem) (o p : Nat) : Mem := cpyM (cpyM (cpyM (cpyM (cpyM (cpyM (cpyM M (p + 1) (o + 1) 7) (p + 2) (o + 2) 7) (p + 3) (o + 3) 7) (p + 4) (o + 4) 7) (p + 5) (o + 5) 7) (p + 6) (o + 6) 6) (p + 7) (o + 7) 6
def cf1 (M : Mem) (o p j : Nat) : Mem := updM M o j (M p j)
def cfM (M : Mem) (o p : Nat) : Mem := cf1 (cf1 (cf1 (cf1 (cf1 (cf1 (cf1 (cf1 (cf1 (cf7 M o p) o p 7) o p 8) o p 9) o p 10) o p 11) o p 12) o p 13) o p 14) o p 15
def kwM (M : Mem) (o : Nat) : Mem := cpyM (cpyM M (o + 3) (o + 8) 7) (o + 4) (o + 9) 7
def inc (M : Mem) (a j : Nat) : Mem := updM M a j (M a j + 1)
def mwM (M : Mem) (o j : Nat) : Mem := inc (updM (updM M (o + 3) j (M (o + 1) j)) (o + 4) j 0) o 13
def tw1 (M : Mem) (o t k : Nat) (a : Int32) : Mem := updM (updM M (o + 3) t (nI k)) (o + 4) t a
def tw2 (M : Mem) (o t k : Nat) : Mem := updM M (o + 2) t (M (o + 2) t &&& (1 <<< (nI k &&& 31) ^^^ -1))
def twM (M : Mem) (o t k : Nat) (a : Int32) : Mem := inc (inc (tw2 (tw1 M o t k a) o t k) (o + 5) t) (o + 7) k
theorem vpin_T {x : Int32} {n : Nat} (h : vp_in x n) (hn : n < 2 ^ 31) : ∃ j, j < n ∧ x = nI j := vp_in_of h hn
theorem want_msk {x : Int32} {k : Nat} (h : vp_in x 64) (hk : k < 6) : vp_in (x &&& (1 <<< (nI k &&& 31) ^^^ -1)) 64 := by
  obtain ⟨j, hj, rfl⟩ := vp_in_of h (by decide)
  have h1 : ∀ (j : Fin 64) (k : Fin 6), ¬ ((nI j.val &&& (1 <<< (nI k.val &&& 31) ^^^ -1)) < 0 ∨ 64 ≤ (nI j.val &&& (1 <<< (nI k.val &&& 31) ^^^ -1)).toNatClampNeg) := by decide +kernel
  exact h1 ⟨j, hj⟩ ⟨k, hk⟩
theorem nT_upd {V : Row} {i : Nat} {x : Int32} (h : i ≠ 1) : nT (upd V i x) = nT V := by
  unfold nT
  rw [pk_un (Ne.symm h)]
theorem nT_gets {V : Row} {t k : Nat} {a : Int32} : nT (getsV V t k a) = nT V := by
  simp only [getsV, gets5, gets4, gets3, gets2, gets1]
  rw [nT_upd (by omega), nT_upd (by omega), nT_upd (by omega), nT_upd (by omega), nT_upd (by omega), nT_upd (by omega)]
theorem RM_tw {M : Mem} {o : Nat} {V : Row} (hR : RM M o V) (hV : WF V) {t k : Nat} {a : Int32} (ht : t < nT V) (hk : k < 6) : RM (twM M o t k a) o (getsV V t k a) := by
  obtain ⟨⟨r7, r8, r9, r10, r11, r12, r13, r14, r15, r2⟩, rk, rt⟩ := hR
  have hn := (WF_n hV).1
  refine ⟨?_, fun i hi => ?_, fun j hj => ?_⟩
  · rw [nT_gets]
    simp only [twM, inc, tw2, tw1, getsV, gets5, gets4, gets3, gets2, gets1, updM, upd, mSum]
    sorry
  · obtain ⟨h1, h2⟩ := rk i hi
    simp only [twM, inc, tw2, tw1, getsV, gets5, gets4, gets3, gets2, gets1, updM, upd]
    sorry
  · rw [nT_gets] at hj
    obtain ⟨h1, h2, h3, h4, h5⟩ := rt j hj
    simp only [twM, inc, tw2, tw1, getsV, gets5, gets4, gets3, gets2, gets1, updM, upd]
    sorry
