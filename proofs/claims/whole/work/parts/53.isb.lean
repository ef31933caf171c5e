set_option maxRecDepth 100000
theorem isB_t {n : Nat} {x : Int32} (hn : n < 1000) (h : isB n x = true) : ∃ k, k < n ∧ x = nI k := by
  unfold isB inW at h
  rw [Bool.and_eq_true, decide_eq_true_eq, decide_eq_true_eq] at h
  obtain ⟨h1, h2⟩ := h
  rw [Int32.le_iff_toInt_le] at h1 h2
  have e0 : (nI 0).toInt = 0 := nI_int (by decide)
  have hs : (nI n - nI 1).toInt = (n : Int) - 1 := by
    cases n with
    | zero => decide
    | succ m => rw [nIsub (by omega), nI_int (by omega)]; omega
  rw [e0] at h1
  rw [hs] at h2
  refine ⟨x.toInt.toNat, by omega, ?_⟩
  apply Int32.toInt_inj.mp
  rw [nI_int (by omega)]
  omega
theorem isB_n {n k : Nat} (hn : n < 1000) (hk : k < n) : isB n (nI k) = true := by
  unfold isB inW
  rw [Bool.and_eq_true, decide_eq_true_eq, decide_eq_true_eq, nIsub (by omega), nIle ⟨by omega, by omega⟩, nIle ⟨by omega, by omega⟩]
  omega
/-- S with another demand -/
def setD (S : PS) (c h : Nat) (x : Int32) : PS := (S.1, S.2.1, S.2.2.1, S.2.2.2.1, (fun c' h' => if c' = c ∧ h' = h then x else pD S c' h'), S.2.2.2.2.2)
/-- setDemand: what is thrown, or the answer and the planner after -/
def spD (A : AT) (x y z : Int32) : String ⊕ (Int32 × AT) :=
  if isB (pB A.1) x = false ∨ isB (pH A.1) y = false then .inl "java/lang/IndexOutOfBoundsException" else if inW (nI 0) (nI 500) z = false then .inl "java/lang/IllegalArgumentException" else
    .inr (pD A.1 x.toNatClampNeg y.toNatClampNeg, (setD A.1 x.toNatClampNeg y.toNatClampNeg z, puH A.1 A.2.1, A.2.2))
