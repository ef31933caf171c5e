set_option maxRecDepth 100000
set_option maxHeartbeats 2000000
/-! THE MODEL: its one row of numbers -/
def CM (S : PS) (f : Nat → Int32) : Prop :=
  f 0 = nI (pH S) ∧ f 1 = nI (pB S) ∧ f 2 = nI (pU S) ∧ f 3 = nI (pO S) ∧ f 4 = nI (pP S) ∧
  (∀ c h, c < 4 → h < 24 → f (5 + 24 * c + h) = pD S c h) ∧ (∀ h, h < 24 → f (101 + h) = pR S h) ∧ (f 125 = -1 ∧ f 129 = nI 0) ∧
  (∀ c, 1 ≤ c → c < 4 → f (125 + c) = nI (pPar S c)) ∧ (∀ c, 1 ≤ c → c < 4 → f (129 + c) = pL S c) ∧
  (∀ o, o < pO S → f (133 + 3 * o) = nI (pX S o).1) ∧ (∀ o, o < pO S → f (133 + 3 * o + 1) = nI (pX S o).2.1) ∧ (∀ o, o < pO S → f (133 + 3 * o + 2) = nI (pX S o).2.2) ∧
  (∀ u k, u < pU S → k < 14 → k ≠ 8 → f (151 + 14 * u + k) = pT S u k) ∧ (∀ u, u < pU S → f (151 + 14 * u + 8) = nI (pBus S u))
theorem CM_congr {S : PS} {f f' : Nat → Int32} (hU : pU S ≤ 6) (hO : pO S ≤ 6) (h : CM S f) (e : ∀ j, j < 235 → f' j = f j) : CM S f' := by
  obtain ⟨h1, h2, h3, h4, h5, h6, h7, h8, h9, h10, h11, h12, h13, h14, h15⟩ := h
  refine ⟨?_, ?_, ?_, ?_, ?_, ?_, ?_, ⟨?_, ?_⟩, ?_, ?_, ?_, ?_, ?_, ?_, ?_⟩
  · rw [e _ (by omega)]; exact h1
  · rw [e _ (by omega)]; exact h2
  · rw [e _ (by omega)]; exact h3
  · rw [e _ (by omega)]; exact h4
  · rw [e _ (by omega)]; exact h5
  · intro c h q1 q2; rw [e _ (by omega)]; exact h6 c h q1 q2
  · intro h q1; rw [e _ (by omega)]; exact h7 h q1
  · rw [e _ (by omega)]; exact h8.1
  · rw [e _ (by omega)]; exact h8.2
  · intro c q1 q2; rw [e _ (by omega)]; exact h9 c q1 q2
  · intro c q1 q2; rw [e _ (by omega)]; exact h10 c q1 q2
  · intro o q1; rw [e _ (by omega)]; exact h11 o q1
  · intro o q1; rw [e _ (by omega)]; exact h12 o q1
  · intro o q1; rw [e _ (by omega)]; exact h13 o q1
  · intro u k q1 q2 q3; rw [e _ (by omega)]; exact h14 u k q1 q2 q3
  · intro u q1; rw [e _ (by omega)]; exact h15 u q1
/-- the model's first hours hold the outcome -/
def OM (S : PS) (ord : Nat → Nat) (rn : Nat → Int32) (h : Nat) (I : Nat → Nat → Int32) : Prop :=
  (∀ u, u < pU S → I 359 (6 * h + u) = bI (bt (rn h) u)) ∧ (∀ u, u < pU S → I 360 (6 * h + u) = bI (!bt (awM S (kwE S) h (pO S)) u)) ∧
  (∀ u, u < pU S → I 361 (6 * h + u) = tmU S rn h u) ∧ (∀ u, u < pU S → I 362 (6 * h + u) = tmR S rn h u) ∧
  (∀ u, u < pU S → I 363 (6 * h + u) = (hrS S ord rn h).2.2.2.1 u) ∧ (∀ u, u < pU S → I 364 (6 * h + u) = (hrS S ord rn h).2.2.2.2.1 u) ∧ (∀ u, u < pU S → I 365 (6 * h + u) = (hrS S ord rn h).2.2.1 u) ∧ (∀ u, u < pU S → I 366 (6 * h + u) = (hrS S ord rn h).2.1 u) ∧ (∀ u, u < pU S → I 367 (6 * h + u) = (hrS S ord rn h).2.2.2.2.2.1 u) ∧
  (∀ u c, u < pU S → c < pB S → I 368 (4 * (6 * h + u) + c) = (hrS S ord rn h).1.2.2 (4 * u + c)) ∧ (∀ c, c < pB S → I 369 (4 * h + c) = (hrS S ord rn h).1.1 c) ∧ (∀ c, c < pB S → I 370 (4 * h + c) = (hrS S ord rn h).1.2.1 c)
/-- the model's list of violations -/
def VM (L : VL) (I : Nat → Nat → Int32) : Prop := I 354 23 = nI L.length ∧ L.length ≤ 504 ∧ ∀ i, i < L.length → I 373 (3 * i) = nI (L.getD i (0, 0, 0)).1 ∧ I 373 (3 * i + 1) = nI (L.getD i (0, 0, 0)).2.1 ∧ I 373 (3 * i + 2) = (L.getD i (0, 0, 0)).2.2
def OutM (S : PS) (I : Nat → Nat → Int32) : Prop := (∀ h, h < pH S → OM S (oFd S) (fdM S) h I) ∧ VM (viO S) I
/-- the model's memory holds A -/
def MR (A : AT) (I : Nat → Nat → Int32) : Prop :=
  CM A.1 (I 355) ∧ (I 354 4 = nI A.2.1.2 ∧ ∀ i, i < A.2.1.2 → CM (A.2.1.1 i) (fun j => I 357 (235 * (A.2.1.2 - 1 - i) + j))) ∧
  (I 354 2 = bI A.2.2.1.isSome ∧ ∀ V, A.2.2.1 = some V → CM V (I 356)) ∧
  (I 354 26 = nI A.2.2.2.2.1 ∧ I 354 29 = A.2.2.2.2.2 ∧ ∀ j, j < A.2.2.2.2.1 → I 375 j = nI (A.2.2.2.1 j)) ∧
  ∃ kn, I 354 7 = bI kn ∧ (kn = true → OutM A.1 I)
/-- what the planner's parts are like -/
def AV (A : AT) : Prop := VS A.1 ∧ (A.2.1.2 ≤ 8 ∧ ∀ i, i < A.2.1.2 → VS (A.2.1.1 i)) ∧ (∀ V, A.2.2.1 = some V → VS V) ∧ (A.2.2.2.2.1 ≤ 100 ∧ ∀ j, j < A.2.2.2.2.1 → 32 ≤ A.2.2.2.1 j ∧ A.2.2.2.1 j ≤ 126)
theorem AV_of {A : AT} {I : Nat → Nat → Int32} (h : CR A I) : AV A := by
  obtain ⟨hV, -, ⟨nx, x1, x2, x3, x4, x5⟩, hsv, hT, -⟩ := h
  exact ⟨hV, ⟨x2, fun i hi => (x5 i hi).1⟩, fun V hVV => (hsv.2 V hVV).1, hT.1, fun j hj => (hT.2.2.2 j hj).2⟩
theorem OM_frame {S : PS} {ord : Nat → Nat} {rn : Nat → Int32} {h : Nat} {I I' : Nat → Nat → Int32} (hU : pU S ≤ 6) (hB : pB S ≤ 4) (f : ∀ q j, 359 ≤ q → q ≤ 367 → 6 * h ≤ j → j < 6 * h + 6 → I' q j = I q j) (f2 : ∀ j, 4 * (6 * h) ≤ j → j < 4 * (6 * h + 6) → I' 368 j = I 368 j) (f3 : ∀ q j, 369 ≤ q → q ≤ 370 → 4 * h ≤ j → j < 4 * h + 4 → I' q j = I q j) (h0 : OM S ord rn h I) : OM S ord rn h I' := by
  obtain ⟨h1, h2, h3, h4, h5, h6, h7, h8, h9, h10, h11, h12⟩ := h0
  refine ⟨?_, ?_, ?_, ?_, ?_, ?_, ?_, ?_, ?_, ?_, ?_, ?_⟩
  · intro u hu; rw [f _ _ (by omega) (by omega) (by omega) (by omega)]; exact h1 u hu
  · intro u hu; rw [f _ _ (by omega) (by omega) (by omega) (by omega)]; exact h2 u hu
  · intro u hu; rw [f _ _ (by omega) (by omega) (by omega) (by omega)]; exact h3 u hu
  · intro u hu; rw [f _ _ (by omega) (by omega) (by omega) (by omega)]; exact h4 u hu
  · intro u hu; rw [f _ _ (by omega) (by omega) (by omega) (by omega)]; exact h5 u hu
  · intro u hu; rw [f _ _ (by omega) (by omega) (by omega) (by omega)]; exact h6 u hu
  · intro u hu; rw [f _ _ (by omega) (by omega) (by omega) (by omega)]; exact h7 u hu
  · intro u hu; rw [f _ _ (by omega) (by omega) (by omega) (by omega)]; exact h8 u hu
  · intro u hu; rw [f _ _ (by omega) (by omega) (by omega) (by omega)]; exact h9 u hu
  · intro u c hu hc; rw [f2 _ (by omega) (by omega)]; exact h10 u c hu hc
  · intro c hc; rw [f3 _ _ (by omega) (by omega) (by omega) (by omega)]; exact h11 c hc
  · intro c hc; rw [f3 _ _ (by omega) (by omega) (by omega) (by omega)]; exact h12 c hc
theorem VM_frame {L : VL} {I I' : Nat → Nat → Int32} (h : VM L I) (f0 : I' 354 23 = I 354 23) (f : ∀ j, j < 1512 → I' 373 j = I 373 j) : VM L I' := by
  obtain ⟨h1, h2, h3⟩ := h
  refine ⟨by rw [f0]; exact h1, h2, fun i hi => ?_⟩
  rw [f _ (by omega), f _ (by omega), f _ (by omega)]; exact h3 i hi
theorem OutM_frame {S : PS} {I I' : Nat → Nat → Int32} (hV : VS S) (h : OutM S I) (f0 : I' 354 23 = I 354 23) (f : ∀ q j, 359 ≤ q → q ≤ 370 ∨ q = 373 → q ≤ 373 → I' q j = I q j) : OutM S I' :=
  ⟨fun k hk => OM_frame hV.2.2.2.1 hV.2.1.2 (fun q j _ _ _ _ => f _ _ (by omega) (by omega) (by omega)) (fun j _ _ => f _ _ (by omega) (by omega) (by omega)) (fun q j _ _ _ _ => f _ _ (by omega) (by omega) (by omega)) (h.1 k hk), VM_frame h.2 f0 (fun j _ => f _ _ (by omega) (by omega) (by omega))⟩
/-! short methods, as equations -/
theorem m_in {M : az_M} {x lo hi : Int32} {Q : Option Value → az_M → Prop} : FX12_in [.int x, .int lo, .int hi] M Q = Q (some (.int (bI (inW lo hi x)))) M := by
  simp (disch := omega) only [s_ic, s_li, s_la, s_si, s_sa, s_inc, s_bin, s_un, s_dup, s_dup2, s_pop, s_if, s_if2, s_gi, s_gr, s_pi, s_pz, s_al, s_aa, s_as, s_az, s_ac, s_mx, s_mn, s_cpy, s_kp, s_ri, s_rz, s_rv, s_cv, s_cs, s_rem, s_div, az_gl, az_sl, az_kp, az_pop, az_fun, az_funX, az_pat, az_in, List.map, List.replicate, List.length, List.cons_append, List.nil_append, Option.toList, f_add, f_sub, f_mul, f_neg, c_eq, c_ne, c_lt, c_ge, c_gt, c_le, d_eq, d_ne, d_lt, d_ge, d_gt, d_le, vinT, nIclamp, nIadd, nImul, nIeq, nIle, nIlt, nIlt0, nIge0, nIgt0, nIle0, nIeq0, ltT, ltF, leT, leF, eqT, eqF, upS, upN, k_n, az_setI, az_setA, true_and, and_true, and_self, true_implies, false_implies, implies_true, not_true_eq_false, not_false_eq_true, Nat.add_zero, Nat.zero_add, Nat.reduceAdd, Nat.reduceSub, Nat.reduceMul, Nat.reduceLT, Nat.reduceLeDiff, Nat.reduceEqDiff, Nat.reducePow, reduceIte, ne_eq, false_and, and_false, exists_eq_left', or_true, true_or, or_false, false_or, nI1one, nI0one, bI0, bI1, bIor, bI_z, bI_1, Bool.not_eq_true, Bool.not_eq_false, Bool.true_eq_false, Bool.false_eq_true, FX12_in, PX12_in, LX12_in_15, LX12_in_14, k_s_354, k_f_354_0, k_f_354_1, k_f_354_3, k_f_354_6, k_f_354_8, k_f_354_9, k_f_354_10, k_f_354_11, k_f_354_12, k_f_354_13, k_f_354_14, k_f_354_15, k_f_354_16, k_f_354_17, k_f_354_18, k_f_354_19, k_f_354_20, k_f_354_21, k_f_354_22, k_f_354_24, k_f_354_25, k_f_354_30, k_f_354_31, k_s_355, k_s_356, k_s_357, k_s_358, k_s_359, k_s_360, k_s_361, k_s_362, k_s_363, k_s_364, k_s_365, k_s_366, k_s_367, k_s_368, k_s_369, k_s_370, k_s_371, k_s_372, k_s_373, k_s_374, k_s_375, k_s_376, k_s_377, k_s_378, k_s_379]
  unfold inW
  by_cases e1 : x < lo
  · have f1 : ¬ lo ≤ x := Int32.not_le.mpr e1
    simp [e1, f1, bI]
  · have f1 : lo ≤ x := Int32.not_lt.mp e1
    by_cases e2 : hi < x
    · have f2 : ¬ x ≤ hi := Int32.not_le.mpr e2
      simp [e1, f1, e2, f2, bI]
    · have f2 : x ≤ hi := Int32.not_lt.mp e2
      simp [e1, f1, e2, f2, bI]
theorem m_isHour {I : Nat → Nat → Int32} {R : RT} {S : PS} {x : Int32} {Q : Option Value → az_M → Prop} (hS : CM S (I 355)) : FX12_isHour [.ref 354, .int x] (K0, I, R) Q = Q (some (.int (bI (isB (pH S) x)))) (K0, I, R) := by
  simp (disch := omega) only [s_ic, s_li, s_la, s_si, s_sa, s_inc, s_bin, s_un, s_dup, s_dup2, s_pop, s_if, s_if2, s_gi, s_gr, s_pi, s_pz, s_al, s_aa, s_as, s_az, s_ac, s_mx, s_mn, s_cpy, s_kp, s_ri, s_rz, s_rv, s_cv, s_cs, s_rem, s_div, az_gl, az_sl, az_kp, az_pop, az_fun, az_funX, az_pat, az_in, List.map, List.replicate, List.length, List.cons_append, List.nil_append, Option.toList, f_add, f_sub, f_mul, f_neg, c_eq, c_ne, c_lt, c_ge, c_gt, c_le, d_eq, d_ne, d_lt, d_ge, d_gt, d_le, vinT, nIclamp, nIadd, nImul, nIeq, nIle, nIlt, nIlt0, nIge0, nIgt0, nIle0, nIeq0, ltT, ltF, leT, leF, eqT, eqF, upS, upN, k_n, az_setI, az_setA, true_and, and_true, and_self, true_implies, false_implies, implies_true, not_true_eq_false, not_false_eq_true, Nat.add_zero, Nat.zero_add, Nat.reduceAdd, Nat.reduceSub, Nat.reduceMul, Nat.reduceLT, Nat.reduceLeDiff, Nat.reduceEqDiff, Nat.reducePow, reduceIte, ne_eq, false_and, and_false, exists_eq_left', or_true, true_or, or_false, false_or, nI1one, nI0one, bI0, bI1, bIor, bI_z, bI_1, Bool.not_eq_true, Bool.not_eq_false, Bool.true_eq_false, Bool.false_eq_true, FX12_isHour, PX12_isHour, hS.1, m_in, isB, bIor2, k_s_354, k_f_354_0, k_f_354_1, k_f_354_3, k_f_354_6, k_f_354_8, k_f_354_9, k_f_354_10, k_f_354_11, k_f_354_12, k_f_354_13, k_f_354_14, k_f_354_15, k_f_354_16, k_f_354_17, k_f_354_18, k_f_354_19, k_f_354_20, k_f_354_21, k_f_354_22, k_f_354_24, k_f_354_25, k_f_354_30, k_f_354_31, k_s_355, k_s_356, k_s_357, k_s_358, k_s_359, k_s_360, k_s_361, k_s_362, k_s_363, k_s_364, k_s_365, k_s_366, k_s_367, k_s_368, k_s_369, k_s_370, k_s_371, k_s_372, k_s_373, k_s_374, k_s_375, k_s_376, k_s_377, k_s_378, k_s_379]
theorem m_isBus {I : Nat → Nat → Int32} {R : RT} {S : PS} {x : Int32} {Q : Option Value → az_M → Prop} (hS : CM S (I 355)) : FX12_isBus [.ref 354, .int x] (K0, I, R) Q = Q (some (.int (bI (isB (pB S) x)))) (K0, I, R) := by
  simp (disch := omega) only [s_ic, s_li, s_la, s_si, s_sa, s_inc, s_bin, s_un, s_dup, s_dup2, s_pop, s_if, s_if2, s_gi, s_gr, s_pi, s_pz, s_al, s_aa, s_as, s_az, s_ac, s_mx, s_mn, s_cpy, s_kp, s_ri, s_rz, s_rv, s_cv, s_cs, s_rem, s_div, az_gl, az_sl, az_kp, az_pop, az_fun, az_funX, az_pat, az_in, List.map, List.replicate, List.length, List.cons_append, List.nil_append, Option.toList, f_add, f_sub, f_mul, f_neg, c_eq, c_ne, c_lt, c_ge, c_gt, c_le, d_eq, d_ne, d_lt, d_ge, d_gt, d_le, vinT, nIclamp, nIadd, nImul, nIeq, nIle, nIlt, nIlt0, nIge0, nIgt0, nIle0, nIeq0, ltT, ltF, leT, leF, eqT, eqF, upS, upN, k_n, az_setI, az_setA, true_and, and_true, and_self, true_implies, false_implies, implies_true, not_true_eq_false, not_false_eq_true, Nat.add_zero, Nat.zero_add, Nat.reduceAdd, Nat.reduceSub, Nat.reduceMul, Nat.reduceLT, Nat.reduceLeDiff, Nat.reduceEqDiff, Nat.reducePow, reduceIte, ne_eq, false_and, and_false, exists_eq_left', or_true, true_or, or_false, false_or, nI1one, nI0one, bI0, bI1, bIor, bI_z, bI_1, Bool.not_eq_true, Bool.not_eq_false, Bool.true_eq_false, Bool.false_eq_true, FX12_isBus, PX12_isBus, hS.2.1, m_in, isB, bIor2, k_s_354, k_f_354_0, k_f_354_1, k_f_354_3, k_f_354_6, k_f_354_8, k_f_354_9, k_f_354_10, k_f_354_11, k_f_354_12, k_f_354_13, k_f_354_14, k_f_354_15, k_f_354_16, k_f_354_17, k_f_354_18, k_f_354_19, k_f_354_20, k_f_354_21, k_f_354_22, k_f_354_24, k_f_354_25, k_f_354_30, k_f_354_31, k_s_355, k_s_356, k_s_357, k_s_358, k_s_359, k_s_360, k_s_361, k_s_362, k_s_363, k_s_364, k_s_365, k_s_366, k_s_367, k_s_368, k_s_369, k_s_370, k_s_371, k_s_372, k_s_373, k_s_374, k_s_375, k_s_376, k_s_377, k_s_378, k_s_379]
theorem m_isUnit {I : Nat → Nat → Int32} {R : RT} {S : PS} {x : Int32} {Q : Option Value → az_M → Prop} (hS : CM S (I 355)) : FX12_isUnit [.ref 354, .int x] (K0, I, R) Q = Q (some (.int (bI (isB (pU S) x)))) (K0, I, R) := by
  simp (disch := omega) only [s_ic, s_li, s_la, s_si, s_sa, s_inc, s_bin, s_un, s_dup, s_dup2, s_pop, s_if, s_if2, s_gi, s_gr, s_pi, s_pz, s_al, s_aa, s_as, s_az, s_ac, s_mx, s_mn, s_cpy, s_kp, s_ri, s_rz, s_rv, s_cv, s_cs, s_rem, s_div, az_gl, az_sl, az_kp, az_pop, az_fun, az_funX, az_pat, az_in, List.map, List.replicate, List.length, List.cons_append, List.nil_append, Option.toList, f_add, f_sub, f_mul, f_neg, c_eq, c_ne, c_lt, c_ge, c_gt, c_le, d_eq, d_ne, d_lt, d_ge, d_gt, d_le, vinT, nIclamp, nIadd, nImul, nIeq, nIle, nIlt, nIlt0, nIge0, nIgt0, nIle0, nIeq0, ltT, ltF, leT, leF, eqT, eqF, upS, upN, k_n, az_setI, az_setA, true_and, and_true, and_self, true_implies, false_implies, implies_true, not_true_eq_false, not_false_eq_true, Nat.add_zero, Nat.zero_add, Nat.reduceAdd, Nat.reduceSub, Nat.reduceMul, Nat.reduceLT, Nat.reduceLeDiff, Nat.reduceEqDiff, Nat.reducePow, reduceIte, ne_eq, false_and, and_false, exists_eq_left', or_true, true_or, or_false, false_or, nI1one, nI0one, bI0, bI1, bIor, bI_z, bI_1, Bool.not_eq_true, Bool.not_eq_false, Bool.true_eq_false, Bool.false_eq_true, FX12_isUnit, PX12_isUnit, hS.2.2.1, m_in, isB, bIor2, k_s_354, k_f_354_0, k_f_354_1, k_f_354_3, k_f_354_6, k_f_354_8, k_f_354_9, k_f_354_10, k_f_354_11, k_f_354_12, k_f_354_13, k_f_354_14, k_f_354_15, k_f_354_16, k_f_354_17, k_f_354_18, k_f_354_19, k_f_354_20, k_f_354_21, k_f_354_22, k_f_354_24, k_f_354_25, k_f_354_30, k_f_354_31, k_s_355, k_s_356, k_s_357, k_s_358, k_s_359, k_s_360, k_s_361, k_s_362, k_s_363, k_s_364, k_s_365, k_s_366, k_s_367, k_s_368, k_s_369, k_s_370, k_s_371, k_s_372, k_s_373, k_s_374, k_s_375, k_s_376, k_s_377, k_s_378, k_s_379]
theorem m_isOutage {I : Nat → Nat → Int32} {R : RT} {S : PS} {x : Int32} {Q : Option Value → az_M → Prop} (hS : CM S (I 355)) : FX12_isOutage [.ref 354, .int x] (K0, I, R) Q = Q (some (.int (bI (isB (pO S) x)))) (K0, I, R) := by
  simp (disch := omega) only [s_ic, s_li, s_la, s_si, s_sa, s_inc, s_bin, s_un, s_dup, s_dup2, s_pop, s_if, s_if2, s_gi, s_gr, s_pi, s_pz, s_al, s_aa, s_as, s_az, s_ac, s_mx, s_mn, s_cpy, s_kp, s_ri, s_rz, s_rv, s_cv, s_cs, s_rem, s_div, az_gl, az_sl, az_kp, az_pop, az_fun, az_funX, az_pat, az_in, List.map, List.replicate, List.length, List.cons_append, List.nil_append, Option.toList, f_add, f_sub, f_mul, f_neg, c_eq, c_ne, c_lt, c_ge, c_gt, c_le, d_eq, d_ne, d_lt, d_ge, d_gt, d_le, vinT, nIclamp, nIadd, nImul, nIeq, nIle, nIlt, nIlt0, nIge0, nIgt0, nIle0, nIeq0, ltT, ltF, leT, leF, eqT, eqF, upS, upN, k_n, az_setI, az_setA, true_and, and_true, and_self, true_implies, false_implies, implies_true, not_true_eq_false, not_false_eq_true, Nat.add_zero, Nat.zero_add, Nat.reduceAdd, Nat.reduceSub, Nat.reduceMul, Nat.reduceLT, Nat.reduceLeDiff, Nat.reduceEqDiff, Nat.reducePow, reduceIte, ne_eq, false_and, and_false, exists_eq_left', or_true, true_or, or_false, false_or, nI1one, nI0one, bI0, bI1, bIor, bI_z, bI_1, Bool.not_eq_true, Bool.not_eq_false, Bool.true_eq_false, Bool.false_eq_true, FX12_isOutage, PX12_isOutage, hS.2.2.2.1, m_in, isB, bIor2, k_s_354, k_f_354_0, k_f_354_1, k_f_354_3, k_f_354_6, k_f_354_8, k_f_354_9, k_f_354_10, k_f_354_11, k_f_354_12, k_f_354_13, k_f_354_14, k_f_354_15, k_f_354_16, k_f_354_17, k_f_354_18, k_f_354_19, k_f_354_20, k_f_354_21, k_f_354_22, k_f_354_24, k_f_354_25, k_f_354_30, k_f_354_31, k_s_355, k_s_356, k_s_357, k_s_358, k_s_359, k_s_360, k_s_361, k_s_362, k_s_363, k_s_364, k_s_365, k_s_366, k_s_367, k_s_368, k_s_369, k_s_370, k_s_371, k_s_372, k_s_373, k_s_374, k_s_375, k_s_376, k_s_377, k_s_378, k_s_379]
theorem m_at {M : az_M} {u k : Nat} {Q : Option Value → az_M → Prop} : FX12_at [.int (nI u), .int (nI k)] M Q = Q (some (.int (nI (151 + 14 * u + k)))) M := by
  simp (disch := omega) only [s_ic, s_li, s_la, s_si, s_sa, s_inc, s_bin, s_un, s_dup, s_dup2, s_pop, s_if, s_if2, s_gi, s_gr, s_pi, s_pz, s_al, s_aa, s_as, s_az, s_ac, s_mx, s_mn, s_cpy, s_kp, s_ri, s_rz, s_rv, s_cv, s_cs, s_rem, s_div, az_gl, az_sl, az_kp, az_pop, az_fun, az_funX, az_pat, az_in, List.map, List.replicate, List.length, List.cons_append, List.nil_append, Option.toList, f_add, f_sub, f_mul, f_neg, c_eq, c_ne, c_lt, c_ge, c_gt, c_le, d_eq, d_ne, d_lt, d_ge, d_gt, d_le, vinT, nIclamp, nIadd, nImul, nIeq, nIle, nIlt, nIlt0, nIge0, nIgt0, nIle0, nIeq0, ltT, ltF, leT, leF, eqT, eqF, upS, upN, k_n, az_setI, az_setA, true_and, and_true, and_self, true_implies, false_implies, implies_true, not_true_eq_false, not_false_eq_true, Nat.add_zero, Nat.zero_add, Nat.reduceAdd, Nat.reduceSub, Nat.reduceMul, Nat.reduceLT, Nat.reduceLeDiff, Nat.reduceEqDiff, Nat.reducePow, reduceIte, ne_eq, false_and, and_false, exists_eq_left', or_true, true_or, or_false, false_or, nI1one, nI0one, bI0, bI1, bIor, bI_z, bI_1, Bool.not_eq_true, Bool.not_eq_false, Bool.true_eq_false, Bool.false_eq_true, FX12_at, PX12_at, k_s_354, k_f_354_0, k_f_354_1, k_f_354_3, k_f_354_6, k_f_354_8, k_f_354_9, k_f_354_10, k_f_354_11, k_f_354_12, k_f_354_13, k_f_354_14, k_f_354_15, k_f_354_16, k_f_354_17, k_f_354_18, k_f_354_19, k_f_354_20, k_f_354_21, k_f_354_22, k_f_354_24, k_f_354_25, k_f_354_30, k_f_354_31, k_s_355, k_s_356, k_s_357, k_s_358, k_s_359, k_s_360, k_s_361, k_s_362, k_s_363, k_s_364, k_s_365, k_s_366, k_s_367, k_s_368, k_s_369, k_s_370, k_s_371, k_s_372, k_s_373, k_s_374, k_s_375, k_s_376, k_s_377, k_s_378, k_s_379]
theorem m_of {I : Nat → Nat → Int32} {R : RT} {S : PS} {u k : Nat} {Q : Option Value → az_M → Prop} (hU : pU S ≤ 6) (hS : CM S (I 355)) (hu : u < pU S) (hk : k < 14 ∧ k ≠ 8) : FX12_of [.ref 354, .int (nI u), .int (nI k)] (K0, I, R) Q = Q (some (.int (pT S u k))) (K0, I, R) := by
  have e := hS.2.2.2.2.2.2.2.2.2.2.2.2.2.1 u k hu hk.1 hk.2
  simp (disch := omega) only [s_ic, s_li, s_la, s_si, s_sa, s_inc, s_bin, s_un, s_dup, s_dup2, s_pop, s_if, s_if2, s_gi, s_gr, s_pi, s_pz, s_al, s_aa, s_as, s_az, s_ac, s_mx, s_mn, s_cpy, s_kp, s_ri, s_rz, s_rv, s_cv, s_cs, s_rem, s_div, az_gl, az_sl, az_kp, az_pop, az_fun, az_funX, az_pat, az_in, List.map, List.replicate, List.length, List.cons_append, List.nil_append, Option.toList, f_add, f_sub, f_mul, f_neg, c_eq, c_ne, c_lt, c_ge, c_gt, c_le, d_eq, d_ne, d_lt, d_ge, d_gt, d_le, vinT, nIclamp, nIadd, nImul, nIeq, nIle, nIlt, nIlt0, nIge0, nIgt0, nIle0, nIeq0, ltT, ltF, leT, leF, eqT, eqF, upS, upN, k_n, az_setI, az_setA, true_and, and_true, and_self, true_implies, false_implies, implies_true, not_true_eq_false, not_false_eq_true, Nat.add_zero, Nat.zero_add, Nat.reduceAdd, Nat.reduceSub, Nat.reduceMul, Nat.reduceLT, Nat.reduceLeDiff, Nat.reduceEqDiff, Nat.reducePow, reduceIte, ne_eq, false_and, and_false, exists_eq_left', or_true, true_or, or_false, false_or, nI1one, nI0one, bI0, bI1, bIor, bI_z, bI_1, Bool.not_eq_true, Bool.not_eq_false, Bool.true_eq_false, Bool.false_eq_true, FX12_of, PX12_of, m_at, e, k_s_354, k_f_354_0, k_f_354_1, k_f_354_3, k_f_354_6, k_f_354_8, k_f_354_9, k_f_354_10, k_f_354_11, k_f_354_12, k_f_354_13, k_f_354_14, k_f_354_15, k_f_354_16, k_f_354_17, k_f_354_18, k_f_354_19, k_f_354_20, k_f_354_21, k_f_354_22, k_f_354_24, k_f_354_25, k_f_354_30, k_f_354_31, k_s_355, k_s_356, k_s_357, k_s_358, k_s_359, k_s_360, k_s_361, k_s_362, k_s_363, k_s_364, k_s_365, k_s_366, k_s_367, k_s_368, k_s_369, k_s_370, k_s_371, k_s_372, k_s_373, k_s_374, k_s_375, k_s_376, k_s_377, k_s_378, k_s_379]
theorem m_of8 {I : Nat → Nat → Int32} {R : RT} {S : PS} {u : Nat} {Q : Option Value → az_M → Prop} (hU : pU S ≤ 6) (hS : CM S (I 355)) (hu : u < pU S) : FX12_of [.ref 354, .int (nI u), .int (nI 8)] (K0, I, R) Q = Q (some (.int (nI (pBus S u)))) (K0, I, R) := by
  have e := hS.2.2.2.2.2.2.2.2.2.2.2.2.2.2 u hu
  simp (disch := omega) only [s_ic, s_li, s_la, s_si, s_sa, s_inc, s_bin, s_un, s_dup, s_dup2, s_pop, s_if, s_if2, s_gi, s_gr, s_pi, s_pz, s_al, s_aa, s_as, s_az, s_ac, s_mx, s_mn, s_cpy, s_kp, s_ri, s_rz, s_rv, s_cv, s_cs, s_rem, s_div, az_gl, az_sl, az_kp, az_pop, az_fun, az_funX, az_pat, az_in, List.map, List.replicate, List.length, List.cons_append, List.nil_append, Option.toList, f_add, f_sub, f_mul, f_neg, c_eq, c_ne, c_lt, c_ge, c_gt, c_le, d_eq, d_ne, d_lt, d_ge, d_gt, d_le, vinT, nIclamp, nIadd, nImul, nIeq, nIle, nIlt, nIlt0, nIge0, nIgt0, nIle0, nIeq0, ltT, ltF, leT, leF, eqT, eqF, upS, upN, k_n, az_setI, az_setA, true_and, and_true, and_self, true_implies, false_implies, implies_true, not_true_eq_false, not_false_eq_true, Nat.add_zero, Nat.zero_add, Nat.reduceAdd, Nat.reduceSub, Nat.reduceMul, Nat.reduceLT, Nat.reduceLeDiff, Nat.reduceEqDiff, Nat.reducePow, reduceIte, ne_eq, false_and, and_false, exists_eq_left', or_true, true_or, or_false, false_or, nI1one, nI0one, bI0, bI1, bIor, bI_z, bI_1, Bool.not_eq_true, Bool.not_eq_false, Bool.true_eq_false, Bool.false_eq_true, FX12_of, PX12_of, m_at, e, k_s_354, k_f_354_0, k_f_354_1, k_f_354_3, k_f_354_6, k_f_354_8, k_f_354_9, k_f_354_10, k_f_354_11, k_f_354_12, k_f_354_13, k_f_354_14, k_f_354_15, k_f_354_16, k_f_354_17, k_f_354_18, k_f_354_19, k_f_354_20, k_f_354_21, k_f_354_22, k_f_354_24, k_f_354_25, k_f_354_30, k_f_354_31, k_s_355, k_s_356, k_s_357, k_s_358, k_s_359, k_s_360, k_s_361, k_s_362, k_s_363, k_s_364, k_s_365, k_s_366, k_s_367, k_s_368, k_s_369, k_s_370, k_s_371, k_s_372, k_s_373, k_s_374, k_s_375, k_s_376, k_s_377, k_s_378, k_s_379]
theorem vu_s {f : Nat → Nat → Int32} {a p q n j : Nat} {s d : Nat → Int32} (h : q ≤ j ∧ j < q + n) : va_up f a (va_cpy s d p q n) a j = s (p + (j - q)) := by
  simp only [va_up, ↓reduceIte, va_cpy]
  rw [if_pos h]
theorem vu_o {f : Nat → Nat → Int32} {a p q n j : Nat} {s d : Nat → Int32} (h : ¬ (q ≤ j ∧ j < q + n)) : va_up f a (va_cpy s d p q n) a j = d j := by
  simp only [va_up, ↓reduceIte, va_cpy]
  rw [if_neg h]
theorem vu_na {f : Nat → Nat → Int32} {a q : Nat} {g : Nat → Int32} (h : q ≠ a) : va_up f a g q = f q := if_neg h
theorem vu_ns {f : Nat → Nat → Int32} {a : Nat} {g : Nat → Int32} : va_up f a g a = g := if_pos rfl
theorem up_na {f : Nat → Nat → Int32} {a q j : Nat} {x : Int32} (h : q ≠ a) : az_up f a j x q = f q := az_up_a h
theorem m_change {I : Nat → Nat → Int32} {R : RT} {A : AT} {Q : Option Value → az_M → Prop} (hA : AV A) (hM : MR A I)
    (hQ : ∀ I', I' 354 4 = nI (puH A.1 A.2.1).2 → (∀ i, i < (puH A.1 A.2.1).2 → CM ((puH A.1 A.2.1).1 i) (fun j => I' 357 (235 * ((puH A.1 A.2.1).2 - 1 - i) + j))) → I' 354 7 = bI false → (∀ q j, q ≠ 357 → ¬ (q = 354 ∧ (j = 4 ∨ j = 7)) → I' q j = I q j) → Q none (K0, I', R)) : FX12_change [.ref 354] (K0, I, R) Q := by
  obtain ⟨hV, ⟨hn8, hVP⟩, -⟩ := hA
  obtain ⟨hS, ⟨hn, hP⟩, -⟩ := hM
  obtain ⟨S, ⟨P, n⟩, T⟩ := A
  have hn8 : n ≤ 8 := hn8
  have hn : I 354 4 = nI n := hn
  have hU := hV.2.2.2.1
  have hO := hV.2.2.2.2.1
  by_cases e : n = 8
  · subst e
    simp (disch := omega) only [s_ic, s_li, s_la, s_si, s_sa, s_inc, s_bin, s_un, s_dup, s_dup2, s_pop, s_if, s_if2, s_gi, s_gr, s_pi, s_pz, s_al, s_aa, s_as, s_az, s_ac, s_mx, s_mn, s_cpy, s_kp, s_ri, s_rz, s_rv, s_cv, s_cs, s_rem, s_div, az_gl, az_sl, az_kp, az_pop, az_fun, az_funX, az_pat, az_in, List.map, List.replicate, List.length, List.cons_append, List.nil_append, Option.toList, f_add, f_sub, f_mul, f_neg, c_eq, c_ne, c_lt, c_ge, c_gt, c_le, d_eq, d_ne, d_lt, d_ge, d_gt, d_le, vinT, nIclamp, nIadd, nImul, nIeq, nIle, nIlt, nIlt0, nIge0, nIgt0, nIle0, nIeq0, ltT, ltF, leT, leF, eqT, eqF, upS, upN, k_n, az_setI, az_setA, true_and, and_true, and_self, true_implies, false_implies, implies_true, not_true_eq_false, not_false_eq_true, Nat.add_zero, Nat.zero_add, Nat.reduceAdd, Nat.reduceSub, Nat.reduceMul, Nat.reduceLT, Nat.reduceLeDiff, Nat.reduceEqDiff, Nat.reducePow, reduceIte, ne_eq, false_and, and_false, exists_eq_left', or_true, true_or, or_false, false_or, nI1one, nI0one, bI0, bI1, bIor, bI_z, bI_1, Bool.not_eq_true, Bool.not_eq_false, Bool.true_eq_false, Bool.false_eq_true, FX12_change, PX12_change, LX12_change_37, hn, nIsub, vu_n, vu_na, vu_ns, up_na, k_s_354, k_f_354_0, k_f_354_1, k_f_354_3, k_f_354_6, k_f_354_8, k_f_354_9, k_f_354_10, k_f_354_11, k_f_354_12, k_f_354_13, k_f_354_14, k_f_354_15, k_f_354_16, k_f_354_17, k_f_354_18, k_f_354_19, k_f_354_20, k_f_354_21, k_f_354_22, k_f_354_24, k_f_354_25, k_f_354_30, k_f_354_31, k_s_355, k_s_356, k_s_357, k_s_358, k_s_359, k_s_360, k_s_361, k_s_362, k_s_363, k_s_364, k_s_365, k_s_366, k_s_367, k_s_368, k_s_369, k_s_370, k_s_371, k_s_372, k_s_373, k_s_374, k_s_375, k_s_376, k_s_377, k_s_378, k_s_379]
    refine hQ _ (by rw [upN (by omega), upS ⟨rfl, rfl⟩]; rfl) (fun i hi => ?_) (by rw [upS ⟨rfl, rfl⟩]; rfl) (fun q j z1 z2 => by rw [upN (by omega), upN (by omega), vu_n z1, upN (by omega), vu_n z1])
    have hi' : i < 8 := hi
    by_cases e : i = 0
    · subst e
      refine CM_congr hU hO hS (fun j hj => ?_)
      show az_up (az_up _ _ _ _) _ _ _ 357 (235 * (8 - 1 - 0) + j) = I 355 j
      rw [upN (by omega), upN (by omega), vu_s (by omega)]
      congr 1; omega
    · have hv := hVP (i - 1) (by show i - 1 < 8; omega)
      show CM (if i = 0 then S else P (i - 1)) _
      rw [if_neg e]
      refine CM_congr hv.2.2.2.1 hv.2.2.2.2.1 (hP (i - 1) (by show i - 1 < 8; omega)) (fun j hj => ?_)
      show az_up (az_up _ _ _ _) _ _ _ 357 (235 * (8 - 1 - i) + j) = I 357 (235 * (8 - 1 - (i - 1)) + j)
      rw [upN (by omega), upN (by omega), vu_o (by omega)]
      unfold va_cpy
      rw [if_pos (by omega)]
      congr 1; omega
  · have e2 : n < 8 := by omega
    have hp : (puH S (P, n)).2 = n + 1 := if_pos e2
    simp (disch := omega) only [s_ic, s_li, s_la, s_si, s_sa, s_inc, s_bin, s_un, s_dup, s_dup2, s_pop, s_if, s_if2, s_gi, s_gr, s_pi, s_pz, s_al, s_aa, s_as, s_az, s_ac, s_mx, s_mn, s_cpy, s_kp, s_ri, s_rz, s_rv, s_cv, s_cs, s_rem, s_div, az_gl, az_sl, az_kp, az_pop, az_fun, az_funX, az_pat, az_in, List.map, List.replicate, List.length, List.cons_append, List.nil_append, Option.toList, f_add, f_sub, f_mul, f_neg, c_eq, c_ne, c_lt, c_ge, c_gt, c_le, d_eq, d_ne, d_lt, d_ge, d_gt, d_le, vinT, nIclamp, nIadd, nImul, nIeq, nIle, nIlt, nIlt0, nIge0, nIgt0, nIle0, nIeq0, ltT, ltF, leT, leF, eqT, eqF, upS, upN, k_n, az_setI, az_setA, true_and, and_true, and_self, true_implies, false_implies, implies_true, not_true_eq_false, not_false_eq_true, Nat.add_zero, Nat.zero_add, Nat.reduceAdd, Nat.reduceSub, Nat.reduceMul, Nat.reduceLT, Nat.reduceLeDiff, Nat.reduceEqDiff, Nat.reducePow, reduceIte, ne_eq, false_and, and_false, exists_eq_left', or_true, true_or, or_false, false_or, nI1one, nI0one, bI0, bI1, bIor, bI_z, bI_1, Bool.not_eq_true, Bool.not_eq_false, Bool.true_eq_false, Bool.false_eq_true, FX12_change, PX12_change, LX12_change_37, hn, e, vu_n, k_s_354, k_f_354_0, k_f_354_1, k_f_354_3, k_f_354_6, k_f_354_8, k_f_354_9, k_f_354_10, k_f_354_11, k_f_354_12, k_f_354_13, k_f_354_14, k_f_354_15, k_f_354_16, k_f_354_17, k_f_354_18, k_f_354_19, k_f_354_20, k_f_354_21, k_f_354_22, k_f_354_24, k_f_354_25, k_f_354_30, k_f_354_31, k_s_355, k_s_356, k_s_357, k_s_358, k_s_359, k_s_360, k_s_361, k_s_362, k_s_363, k_s_364, k_s_365, k_s_366, k_s_367, k_s_368, k_s_369, k_s_370, k_s_371, k_s_372, k_s_373, k_s_374, k_s_375, k_s_376, k_s_377, k_s_378, k_s_379]
    refine hQ _ (by rw [upN (by omega), upS ⟨rfl, rfl⟩]; exact congrArg nI hp.symm) (fun i hi => ?_) (by rw [upS ⟨rfl, rfl⟩]; rfl) (fun q j z1 z2 => by rw [upN (by omega), upN (by omega), vu_n z1])
    have hi' : i < n + 1 := by rw [← hp]; exact hi
    show CM (if i = 0 then S else P (i - 1)) (fun j => az_up (az_up _ _ _ _) _ _ _ 357 (235 * ((puH S (P, n)).2 - 1 - i) + j))
    rw [hp]
    by_cases e3 : i = 0
    · subst e3
      rw [if_pos rfl]
      refine CM_congr hU hO hS (fun j hj => ?_)
      show az_up (az_up _ _ _ _) _ _ _ 357 (235 * (n + 1 - 1 - 0) + j) = I 355 j
      rw [upN (by omega), upN (by omega), vu_s (by omega)]
      congr 1; omega
    · rw [if_neg e3]
      have hv := hVP (i - 1) (by show i - 1 < n; omega)
      refine CM_congr hv.2.2.2.1 hv.2.2.2.2.1 (hP (i - 1) (by show i - 1 < n; omega)) (fun j hj => ?_)
      show az_up (az_up _ _ _ _) _ _ _ 357 (235 * (n + 1 - 1 - i) + j) = I 357 (235 * (n - 1 - (i - 1)) + j)
      have hle : 235 * (n + 1 - 1 - i) + j < 235 * n := by
        have : n + 1 - 1 - i + 1 ≤ n := by omega
        have := Nat.mul_le_mul_left 235 this
        omega
      rw [upN (by omega), upN (by omega), vu_o (by omega)]
      congr 2; omega
