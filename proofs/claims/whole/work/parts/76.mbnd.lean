set_option maxRecDepth 100000
set_option maxHeartbeats 2000000
/-! hours up and at rest, in bounds -/
theorem tmU_bd {S : PS} (hV : VS S) {rn : Nat → Int32} {u : Nat} (hu : u < pU S) : ∀ h, h ≤ 24 → 0 ≤ (tmU S rn h u).toInt ∧ (tmU S rn h u).toInt ≤ 24 + h
  | 0, _ => by
    have hb := (hV.2.2.2.2.2.1 u hu).2.2.2.2.2.2.2.1
    unfold inI at hb
    show 0 ≤ (mxI (pT S u 6) (nI 0)).toInt ∧ _
    rw [show tmU S rn 0 u = mxI (pT S u 6) (nI 0) from rfl, mx_T, nI_0, tI_0]
    split <;> omega
  | h + 1, hh => by
    have ih := tmU_bd hV (rn := rn) hu h (by omega)
    rw [show tmU S rn (h + 1) u = if bt (rn h) u = true then tmU S rn h u + nI 1 else nI 0 from rfl]
    split
    · rw [tI_add (by rw [tI_n (by omega)]; omega), tI_n (by omega)]; omega
    · rw [nI_0, tI_0]; omega
theorem tmU_pos {S : PS} (hV : VS S) {rn : Nat → Int32} {u h : Nat} (hu : u < pU S) (hh : h < 24) : decide (0 < tmU S rn (h + 1) u) = bt (rn h) u := by
  have ih := tmU_bd hV (rn := rn) hu h (by omega)
  rw [show tmU S rn (h + 1) u = if bt (rn h) u = true then tmU S rn h u + nI 1 else nI 0 from rfl]
  cases e : bt (rn h) u
  · rw [if_neg (by decide), nI_0]; decide
  · rw [if_pos rfl]
    apply decide_eq_true
    rw [lt_T, tI_add (by rw [tI_n (by omega)]; omega), tI_n (by omega), tI_0]; omega
theorem tmU_0 {S : PS} {rn : Nat → Int32} {u : Nat} : decide (0 < tmU S rn 0 u) = decide (0 < pT S u 6) := by
  apply decide_eq_decide.mpr
  rw [show tmU S rn 0 u = mxI (pT S u 6) (nI 0) from rfl, lt_T, lt_T, mx_T, nI_0, tI_0]
  split <;> omega
theorem mx_c {x y : Int32} : (if x < y then y else x) = mxI y x := by
  apply Int32.toInt_inj.mp
  rw [mx_T]
  by_cases h : x < y
  · rw [if_pos h]
    rw [lt_T] at h
    rw [if_neg (by omega)]
  · rw [if_neg h]
    rw [lt_T] at h
    split <;> omega
theorem mn_c {x y : Int32} : (if y < x then y else x) = mnI x y := rfl
theorem mx_d {x y : Int32} : (if x < y then y else x) = mxI x y := rfl
/-- what the hour before left -/
def PB (S : PS) (rn : Nat → Int32) (h u : Nat) (I : Nat → Nat → Int32) : Prop := h = 0 ∨ (I 359 (6 * (h - 1) + u) = bI (bt (rn (h - 1)) u) ∧ I 361 (6 * (h - 1) + u) = tmU S rn (h - 1) u ∧ I 362 (6 * (h - 1) + u) = tmR S rn (h - 1) u)
theorem m_lookBack {I : Nat → Nat → Int32} {R : RT} {S : PS} {rn : Nat → Int32} {u h : Nat} {Q : Option Value → az_M → Prop} (hV : VS S) (hS : CM S (I 355)) (hu : u < pU S) (hh : h < 24) (hP : PB S rn h u I)
    (hQ : ∀ I', I' 361 (6 * h + u) = tmU S rn h u → I' 362 (6 * h + u) = tmR S rn h u → (∀ q j, ¬ ((q = 361 ∨ q = 362) ∧ j = 6 * h + u) → I' q j = I q j) → Q none (K0, I', R)) : FX12_lookBack [.ref 354, .int (nI u), .int (nI h)] (K0, I, R) Q := by
  have hU := hV.2.2.2.1
  have fin : ∀ x y I2, I2 = az_up (az_up I 361 (6 * h + u) x) 362 (6 * h + u) y → x = tmU S rn h u → y = tmR S rn h u → Q none (K0, I2, R) := by
    intro x y I2 hI hx hy
    subst hI
    exact hQ _ (by rw [upN (by omega), upS ⟨rfl, rfl⟩]; exact hx) (by rw [upS ⟨rfl, rfl⟩]; exact hy) (fun q j z => by rw [upN (by omega), upN (by omega)])
  have r6 := hS.2.2.2.2.2.2.2.2.2.2.2.2.2.1 u 6 hu (by omega) (by omega)
  by_cases h0 : h = 0
  · have e0 : (h = 0) = True := eq_true h0
    simp (disch := omega) only [s_ic, s_li, s_la, s_si, s_sa, s_inc, s_bin, s_un, s_dup, s_dup2, s_pop, s_if, s_if2, s_gi, s_gr, s_pi, s_pz, s_al, s_aa, s_as, s_az, s_ac, s_mx, s_mn, s_cpy, s_kp, s_ri, s_rz, s_rv, s_cv, s_cs, s_rem, s_div, az_gl, az_sl, az_kp, az_pop, az_fun, az_funX, az_pat, az_in, List.map, List.replicate, List.length, List.cons_append, List.nil_append, Option.toList, f_add, f_sub, f_mul, f_neg, c_eq, c_ne, c_lt, c_ge, c_gt, c_le, d_eq, d_ne, d_lt, d_ge, d_gt, d_le, vinT, nIclamp, nIadd, nImul, nIeq, nIle, nIlt, nIlt0, nIge0, nIgt0, nIle0, nIeq0, ltT, ltF, leT, leF, eqT, eqF, upS, upN, k_n, az_setI, az_setA, true_and, and_true, and_self, true_implies, false_implies, implies_true, not_true_eq_false, not_false_eq_true, Nat.add_zero, Nat.zero_add, Nat.reduceAdd, Nat.reduceSub, Nat.reduceMul, Nat.reduceLT, Nat.reduceLeDiff, Nat.reduceEqDiff, Nat.reducePow, reduceIte, ne_eq, false_and, and_false, exists_eq_left', or_true, true_or, or_false, false_or, nI1one, nI0one, bI0, bI1, bIor, bI_z, bI_1, Bool.not_eq_true, Bool.not_eq_false, Bool.true_eq_false, Bool.false_eq_true, FX12_lookBack, PX12_lookBack, FX12_of, PX12_of, m_at, e0, r6, LX12_lookBack_112, k_s_354, k_f_354_0, k_f_354_1, k_f_354_3, k_f_354_6, k_f_354_8, k_f_354_9, k_f_354_10, k_f_354_11, k_f_354_12, k_f_354_13, k_f_354_14, k_f_354_15, k_f_354_16, k_f_354_17, k_f_354_18, k_f_354_19, k_f_354_20, k_f_354_21, k_f_354_22, k_f_354_24, k_f_354_25, k_f_354_30, k_f_354_31, k_s_355, k_s_356, k_s_357, k_s_358, k_s_359, k_s_360, k_s_361, k_s_362, k_s_363, k_s_364, k_s_365, k_s_366, k_s_367, k_s_368, k_s_369, k_s_370, k_s_371, k_s_372, k_s_373, k_s_374, k_s_375, k_s_376, k_s_377, k_s_378, k_s_379, vu_n, vu_na, vu_ns, up_na]
    refine fin _ _ _ rfl ?_ ?_
    · rw [mx_c, h0]; rfl
    · rw [mx_c, h0]; rfl
  · obtain ⟨k, rfl⟩ : ∃ k, h = k + 1 := ⟨h - 1, by omega⟩
    obtain ⟨p1, p2, p3⟩ := hP.resolve_left (by omega)
    rw [show k + 1 - 1 = k by omega] at p1 p2 p3
    have ei : 6 * (k + 1) + u - 6 = 6 * k + u := by omega
    cases hb : bt (rn k) u
    · rw [hb] at p1
      simp (disch := omega) only [s_ic, s_li, s_la, s_si, s_sa, s_inc, s_bin, s_un, s_dup, s_dup2, s_pop, s_if, s_if2, s_gi, s_gr, s_pi, s_pz, s_al, s_aa, s_as, s_az, s_ac, s_mx, s_mn, s_cpy, s_kp, s_ri, s_rz, s_rv, s_cv, s_cs, s_rem, s_div, az_gl, az_sl, az_kp, az_pop, az_fun, az_funX, az_pat, az_in, List.map, List.replicate, List.length, List.cons_append, List.nil_append, Option.toList, f_add, f_sub, f_mul, f_neg, c_eq, c_ne, c_lt, c_ge, c_gt, c_le, d_eq, d_ne, d_lt, d_ge, d_gt, d_le, vinT, nIclamp, nIadd, nImul, nIeq, nIle, nIlt, nIlt0, nIge0, nIgt0, nIle0, nIeq0, ltT, ltF, leT, leF, eqT, eqF, upS, upN, k_n, az_setI, az_setA, true_and, and_true, and_self, true_implies, false_implies, implies_true, not_true_eq_false, not_false_eq_true, Nat.add_zero, Nat.zero_add, Nat.reduceAdd, Nat.reduceSub, Nat.reduceMul, Nat.reduceLT, Nat.reduceLeDiff, Nat.reduceEqDiff, Nat.reducePow, reduceIte, ne_eq, false_and, and_false, exists_eq_left', or_true, true_or, or_false, false_or, nI1one, nI0one, bI0, bI1, bIor, bI_z, bI_1, Bool.not_eq_true, Bool.not_eq_false, Bool.true_eq_false, Bool.false_eq_true, FX12_lookBack, PX12_lookBack, nIsub, ei, p1, p2, p3, LX12_lookBack_85, LX12_lookBack_111, LX12_lookBack_112, k_s_354, k_f_354_0, k_f_354_1, k_f_354_3, k_f_354_6, k_f_354_8, k_f_354_9, k_f_354_10, k_f_354_11, k_f_354_12, k_f_354_13, k_f_354_14, k_f_354_15, k_f_354_16, k_f_354_17, k_f_354_18, k_f_354_19, k_f_354_20, k_f_354_21, k_f_354_22, k_f_354_24, k_f_354_25, k_f_354_30, k_f_354_31, k_s_355, k_s_356, k_s_357, k_s_358, k_s_359, k_s_360, k_s_361, k_s_362, k_s_363, k_s_364, k_s_365, k_s_366, k_s_367, k_s_368, k_s_369, k_s_370, k_s_371, k_s_372, k_s_373, k_s_374, k_s_375, k_s_376, k_s_377, k_s_378, k_s_379, vu_n, vu_na, vu_ns, up_na]
      refine fin _ _ _ rfl ?_ ?_
      · rw [show tmU S rn (k + 1) u = if bt (rn k) u = true then tmU S rn k u + nI 1 else nI 0 from rfl, hb, if_neg (by decide)]
      · rw [show tmR S rn (k + 1) u = if bt (rn k) u = true then nI 0 else tmR S rn k u + nI 1 from rfl, hb, if_neg (by decide)]
    · rw [hb] at p1
      simp (disch := omega) only [s_ic, s_li, s_la, s_si, s_sa, s_inc, s_bin, s_un, s_dup, s_dup2, s_pop, s_if, s_if2, s_gi, s_gr, s_pi, s_pz, s_al, s_aa, s_as, s_az, s_ac, s_mx, s_mn, s_cpy, s_kp, s_ri, s_rz, s_rv, s_cv, s_cs, s_rem, s_div, az_gl, az_sl, az_kp, az_pop, az_fun, az_funX, az_pat, az_in, List.map, List.replicate, List.length, List.cons_append, List.nil_append, Option.toList, f_add, f_sub, f_mul, f_neg, c_eq, c_ne, c_lt, c_ge, c_gt, c_le, d_eq, d_ne, d_lt, d_ge, d_gt, d_le, vinT, nIclamp, nIadd, nImul, nIeq, nIle, nIlt, nIlt0, nIge0, nIgt0, nIle0, nIeq0, ltT, ltF, leT, leF, eqT, eqF, upS, upN, k_n, az_setI, az_setA, true_and, and_true, and_self, true_implies, false_implies, implies_true, not_true_eq_false, not_false_eq_true, Nat.add_zero, Nat.zero_add, Nat.reduceAdd, Nat.reduceSub, Nat.reduceMul, Nat.reduceLT, Nat.reduceLeDiff, Nat.reduceEqDiff, Nat.reducePow, reduceIte, ne_eq, false_and, and_false, exists_eq_left', or_true, true_or, or_false, false_or, nI1one, nI0one, bI0, bI1, bIor, bI_z, bI_1, Bool.not_eq_true, Bool.not_eq_false, Bool.true_eq_false, Bool.false_eq_true, FX12_lookBack, PX12_lookBack, nIsub, ei, p1, p2, p3, LX12_lookBack_85, LX12_lookBack_111, LX12_lookBack_112, k_s_354, k_f_354_0, k_f_354_1, k_f_354_3, k_f_354_6, k_f_354_8, k_f_354_9, k_f_354_10, k_f_354_11, k_f_354_12, k_f_354_13, k_f_354_14, k_f_354_15, k_f_354_16, k_f_354_17, k_f_354_18, k_f_354_19, k_f_354_20, k_f_354_21, k_f_354_22, k_f_354_24, k_f_354_25, k_f_354_30, k_f_354_31, k_s_355, k_s_356, k_s_357, k_s_358, k_s_359, k_s_360, k_s_361, k_s_362, k_s_363, k_s_364, k_s_365, k_s_366, k_s_367, k_s_368, k_s_369, k_s_370, k_s_371, k_s_372, k_s_373, k_s_374, k_s_375, k_s_376, k_s_377, k_s_378, k_s_379, vu_n, vu_na, vu_ns, up_na]
      refine fin _ _ _ rfl ?_ ?_
      · rw [show tmU S rn (k + 1) u = if bt (rn k) u = true then tmU S rn k u + nI 1 else nI 0 from rfl, hb, if_pos rfl]
      · rw [show tmR S rn (k + 1) u = if bt (rn k) u = true then nI 0 else tmR S rn k u + nI 1 from rfl, hb, if_pos rfl]
theorem m_ranBefore {I : Nat → Nat → Int32} {R : RT} {S : PS} {rn : Nat → Int32} {u h : Nat} {Q : Option Value → az_M → Prop} (hV : VS S) (hS : CM S (I 355)) (hu : u < pU S) (hh : h < 24) (hP : h = 0 ∨ I 359 (6 * (h - 1) + u) = bI (bt (rn (h - 1)) u)) : FX12_ranBefore [.ref 354, .int (nI u), .int (nI h)] (K0, I, R) Q = Q (some (.int (bI (decide (0 < tmU S rn h u))))) (K0, I, R) := by
  have hU := hV.2.2.2.1
  cases h with
  | zero =>
    simp (disch := omega) only [s_ic, s_li, s_la, s_si, s_sa, s_inc, s_bin, s_un, s_dup, s_dup2, s_pop, s_if, s_if2, s_gi, s_gr, s_pi, s_pz, s_al, s_aa, s_as, s_az, s_ac, s_mx, s_mn, s_cpy, s_kp, s_ri, s_rz, s_rv, s_cv, s_cs, s_rem, s_div, az_gl, az_sl, az_kp, az_pop, az_fun, az_funX, az_pat, az_in, List.map, List.replicate, List.length, List.cons_append, List.nil_append, Option.toList, f_add, f_sub, f_mul, f_neg, c_eq, c_ne, c_lt, c_ge, c_gt, c_le, d_eq, d_ne, d_lt, d_ge, d_gt, d_le, vinT, nIclamp, nIadd, nImul, nIeq, nIle, nIlt, nIlt0, nIge0, nIgt0, nIle0, nIeq0, ltT, ltF, leT, leF, eqT, eqF, upS, upN, k_n, az_setI, az_setA, true_and, and_true, and_self, true_implies, false_implies, implies_true, not_true_eq_false, not_false_eq_true, Nat.add_zero, Nat.zero_add, Nat.reduceAdd, Nat.reduceSub, Nat.reduceMul, Nat.reduceLT, Nat.reduceLeDiff, Nat.reduceEqDiff, Nat.reducePow, reduceIte, ne_eq, false_and, and_false, exists_eq_left', or_true, true_or, or_false, false_or, nI1one, nI0one, bI0, bI1, bIor, bI_z, bI_1, Bool.not_eq_true, Bool.not_eq_false, Bool.true_eq_false, Bool.false_eq_true, FX12_ranBefore, PX12_ranBefore, LX12_ranBefore_35, m_of hU hS hu, tmU_0, k_s_354, k_f_354_0, k_f_354_1, k_f_354_3, k_f_354_6, k_f_354_8, k_f_354_9, k_f_354_10, k_f_354_11, k_f_354_12, k_f_354_13, k_f_354_14, k_f_354_15, k_f_354_16, k_f_354_17, k_f_354_18, k_f_354_19, k_f_354_20, k_f_354_21, k_f_354_22, k_f_354_24, k_f_354_25, k_f_354_30, k_f_354_31, k_s_355, k_s_356, k_s_357, k_s_358, k_s_359, k_s_360, k_s_361, k_s_362, k_s_363, k_s_364, k_s_365, k_s_366, k_s_367, k_s_368, k_s_369, k_s_370, k_s_371, k_s_372, k_s_373, k_s_374, k_s_375, k_s_376, k_s_377, k_s_378, k_s_379, vu_n, vu_na, vu_ns, up_na]
    by_cases e1 : pT S u 6 ≤ 0
    · have e2 : ¬ 0 < pT S u 6 := Int32.not_lt.mpr e1
      simp [e1, e2, bI]
    · have e2 : 0 < pT S u 6 := Int32.not_le.mp e1
      simp [e1, e2, bI]
  | succ k =>
    have p1 := hP.resolve_left (by omega)
    rw [show k + 1 - 1 = k by omega] at p1
    have ei : 6 * (k + 1 - 1) + u = 6 * k + u := by omega
    rw [tmU_pos hV hu (by omega)]
    simp (disch := omega) only [s_ic, s_li, s_la, s_si, s_sa, s_inc, s_bin, s_un, s_dup, s_dup2, s_pop, s_if, s_if2, s_gi, s_gr, s_pi, s_pz, s_al, s_aa, s_as, s_az, s_ac, s_mx, s_mn, s_cpy, s_kp, s_ri, s_rz, s_rv, s_cv, s_cs, s_rem, s_div, az_gl, az_sl, az_kp, az_pop, az_fun, az_funX, az_pat, az_in, List.map, List.replicate, List.length, List.cons_append, List.nil_append, Option.toList, f_add, f_sub, f_mul, f_neg, c_eq, c_ne, c_lt, c_ge, c_gt, c_le, d_eq, d_ne, d_lt, d_ge, d_gt, d_le, vinT, nIclamp, nIadd, nImul, nIeq, nIle, nIlt, nIlt0, nIge0, nIgt0, nIle0, nIeq0, ltT, ltF, leT, leF, eqT, eqF, upS, upN, k_n, az_setI, az_setA, true_and, and_true, and_self, true_implies, false_implies, implies_true, not_true_eq_false, not_false_eq_true, Nat.add_zero, Nat.zero_add, Nat.reduceAdd, Nat.reduceSub, Nat.reduceMul, Nat.reduceLT, Nat.reduceLeDiff, Nat.reduceEqDiff, Nat.reducePow, reduceIte, ne_eq, false_and, and_false, exists_eq_left', or_true, true_or, or_false, false_or, nI1one, nI0one, bI0, bI1, bIor, bI_z, bI_1, Bool.not_eq_true, Bool.not_eq_false, Bool.true_eq_false, Bool.false_eq_true, FX12_ranBefore, PX12_ranBefore, nIsub, ei, p1, LX12_ranBefore_35, bIor2, k_s_354, k_f_354_0, k_f_354_1, k_f_354_3, k_f_354_6, k_f_354_8, k_f_354_9, k_f_354_10, k_f_354_11, k_f_354_12, k_f_354_13, k_f_354_14, k_f_354_15, k_f_354_16, k_f_354_17, k_f_354_18, k_f_354_19, k_f_354_20, k_f_354_21, k_f_354_22, k_f_354_24, k_f_354_25, k_f_354_30, k_f_354_31, k_s_355, k_s_356, k_s_357, k_s_358, k_s_359, k_s_360, k_s_361, k_s_362, k_s_363, k_s_364, k_s_365, k_s_366, k_s_367, k_s_368, k_s_369, k_s_370, k_s_371, k_s_372, k_s_373, k_s_374, k_s_375, k_s_376, k_s_377, k_s_378, k_s_379, vu_n, vu_na, vu_ns, up_na]
theorem m_bound {I : Nat → Nat → Int32} {R : RT} {S : PS} {rn : Nat → Int32} {u h : Nat} {run : Bool} {pv rs : Int32} {Q : Option Value → az_M → Prop} (hV : VS S) (hS : CM S (I 355)) (hu : u < pU S) (hh : h < 24) (hP : h = 0 ∨ I 359 (6 * (h - 1) + u) = bI (bt (rn (h - 1)) u)) (hr : I 359 (6 * h + u) = bI run) (hre : I 362 (6 * h + u) = rs) (hpv : (h = 0 ∧ pv = pT S u 7) ∨ (h ≠ 0 ∧ I 365 (6 * (h - 1) + u) = pv))
    (hQ : ∀ I', I' 363 (6 * h + u) = loF S u run (decide (0 < tmU S rn h u)) pv → I' 364 (6 * h + u) = hiF S u run (decide (0 < tmU S rn h u)) pv → I' 367 (6 * h + u) = scF S u run (decide (0 < tmU S rn h u)) rs → (∀ q j, ¬ ((q = 363 ∨ q = 364 ∨ q = 367) ∧ j = 6 * h + u) → I' q j = I q j) → Q none (K0, I', R)) : FX12_bound [.ref 354, .int (nI u), .int (nI h)] (K0, I, R) Q := by
  have hU := hV.2.2.2.1
  have r14 := fun k (h1 : k < 14) (h2 : k ≠ 8) => hS.2.2.2.2.2.2.2.2.2.2.2.2.2.1 u k hu h1 h2
  have r3 := r14 3 (by omega) (by omega)
  have r1 := r14 1 (by omega) (by omega)
  have r2 := r14 2 (by omega) (by omega)
  have r7 := r14 7 (by omega) (by omega)
  have r9 := r14 9 (by omega) (by omega)
  have r10 := r14 10 (by omega) (by omega)
  have r11 := r14 11 (by omega) (by omega)
  cases run
  · simp (disch := omega) only [s_ic, s_li, s_la, s_si, s_sa, s_inc, s_bin, s_un, s_dup, s_dup2, s_pop, s_if, s_if2, s_gi, s_gr, s_pi, s_pz, s_al, s_aa, s_as, s_az, s_ac, s_mx, s_mn, s_cpy, s_kp, s_ri, s_rz, s_rv, s_cv, s_cs, s_rem, s_div, az_gl, az_sl, az_kp, az_pop, az_fun, az_funX, az_pat, az_in, List.map, List.replicate, List.length, List.cons_append, List.nil_append, Option.toList, f_add, f_sub, f_mul, f_neg, c_eq, c_ne, c_lt, c_ge, c_gt, c_le, d_eq, d_ne, d_lt, d_ge, d_gt, d_le, vinT, nIclamp, nIadd, nImul, nIeq, nIle, nIlt, nIlt0, nIge0, nIgt0, nIle0, nIeq0, ltT, ltF, leT, leF, eqT, eqF, upS, upN, k_n, az_setI, az_setA, true_and, and_true, and_self, true_implies, false_implies, implies_true, not_true_eq_false, not_false_eq_true, Nat.add_zero, Nat.zero_add, Nat.reduceAdd, Nat.reduceSub, Nat.reduceMul, Nat.reduceLT, Nat.reduceLeDiff, Nat.reduceEqDiff, Nat.reducePow, reduceIte, ne_eq, false_and, and_false, exists_eq_left', or_true, true_or, or_false, false_or, nI1one, nI0one, bI0, bI1, bIor, bI_z, bI_1, Bool.not_eq_true, Bool.not_eq_false, Bool.true_eq_false, Bool.false_eq_true, FX12_bound, PX12_bound, hr, k_s_354, k_f_354_0, k_f_354_1, k_f_354_3, k_f_354_6, k_f_354_8, k_f_354_9, k_f_354_10, k_f_354_11, k_f_354_12, k_f_354_13, k_f_354_14, k_f_354_15, k_f_354_16, k_f_354_17, k_f_354_18, k_f_354_19, k_f_354_20, k_f_354_21, k_f_354_22, k_f_354_24, k_f_354_25, k_f_354_30, k_f_354_31, k_s_355, k_s_356, k_s_357, k_s_358, k_s_359, k_s_360, k_s_361, k_s_362, k_s_363, k_s_364, k_s_365, k_s_366, k_s_367, k_s_368, k_s_369, k_s_370, k_s_371, k_s_372, k_s_373, k_s_374, k_s_375, k_s_376, k_s_377, k_s_378, k_s_379, vu_n, vu_na, vu_ns, up_na]
    refine hQ _ ?_ ?_ ?_ (fun q j z => by rw [upN (by omega), upN (by omega), upN (by omega)])
    · rw [upN (by omega), upN (by omega), upS ⟨rfl, rfl⟩]; rfl
    · rw [upN (by omega), upS ⟨rfl, rfl⟩]; rfl
    · rw [upS ⟨rfl, rfl⟩]; rfl
  · have hRB : ∀ J : Nat → Nat → Int32, J 355 = I 355 → J 359 = I 359 → ∀ Q, FX12_ranBefore [.ref 354, .int (nI u), .int (nI h)] (K0, J, R) Q = Q (some (.int (bI (decide (0 < tmU S rn h u))))) (K0, J, R) := fun J h1 h2 Q => m_ranBefore hV (by rw [h1]; exact hS) hu hh (by rw [h2]; exact hP)
    have hb := hRB (az_up (az_up (az_up I 363 (6 * h + u) (nI 0)) 364 (6 * h + u) (nI 0)) 367 (6 * h + u) (nI 0)) (by rw [up_na (by omega), up_na (by omega), up_na (by omega)]) (by rw [up_na (by omega), up_na (by omega), up_na (by omega)])
    have fin : ∀ (I2 : Nat → Nat → Int32), I2 363 (6 * h + u) = loF S u true (decide (0 < tmU S rn h u)) pv → I2 364 (6 * h + u) = hiF S u true (decide (0 < tmU S rn h u)) pv → I2 367 (6 * h + u) = scF S u true (decide (0 < tmU S rn h u)) rs → (∀ q j, ¬ ((q = 363 ∨ q = 364 ∨ q = 367) ∧ j = 6 * h + u) → I2 q j = I q j) → Q none (K0, I2, R) := hQ
    clear hQ
    cases hub : decide (0 < tmU S rn h u)
    · rw [hub] at hb fin
      have fin2 : ∀ s I2, I2 = az_up (az_up (az_up (az_up (az_up (az_up I 363 (6 * h + u) (nI 0)) 364 (6 * h + u) (nI 0)) 367 (6 * h + u) (nI 0)) 363 (6 * h + u) (pT S u 9)) 364 (6 * h + u) (mnI (pT S u 10) (mxI (pT S u 9) (pT S u 11)))) 367 (6 * h + u) s → s = scF S u true false rs → Q none (K0, I2, R) := by
        intro s I2 hI hs
        subst hI
        refine fin _ ?_ ?_ ?_ (fun q j z => by rw [upN (by omega), upN (by omega), upN (by omega), upN (by omega), upN (by omega), upN (by omega)])
        · rw [upN (by omega), upN (by omega), upS ⟨rfl, rfl⟩]; rfl
        · rw [upN (by omega), upS ⟨rfl, rfl⟩]; rfl
        · rw [upS ⟨rfl, rfl⟩]; exact hs
      clear fin
      simp (disch := omega) only [s_ic, s_li, s_la, s_si, s_sa, s_inc, s_bin, s_un, s_dup, s_dup2, s_pop, s_if, s_if2, s_gi, s_gr, s_pi, s_pz, s_al, s_aa, s_as, s_az, s_ac, s_mx, s_mn, s_cpy, s_kp, s_ri, s_rz, s_rv, s_cv, s_cs, s_rem, s_div, az_gl, az_sl, az_kp, az_pop, az_fun, az_funX, az_pat, az_in, List.map, List.replicate, List.length, List.cons_append, List.nil_append, Option.toList, f_add, f_sub, f_mul, f_neg, c_eq, c_ne, c_lt, c_ge, c_gt, c_le, d_eq, d_ne, d_lt, d_ge, d_gt, d_le, vinT, nIclamp, nIadd, nImul, nIeq, nIle, nIlt, nIlt0, nIge0, nIgt0, nIle0, nIeq0, ltT, ltF, leT, leF, eqT, eqF, upS, upN, k_n, az_setI, az_setA, true_and, and_true, and_self, true_implies, false_implies, implies_true, not_true_eq_false, not_false_eq_true, Nat.add_zero, Nat.zero_add, Nat.reduceAdd, Nat.reduceSub, Nat.reduceMul, Nat.reduceLT, Nat.reduceLeDiff, Nat.reduceEqDiff, Nat.reducePow, reduceIte, ne_eq, false_and, and_false, exists_eq_left', or_true, true_or, or_false, false_or, nI1one, nI0one, bI0, bI1, bIor, bI_z, bI_1, Bool.not_eq_true, Bool.not_eq_false, Bool.true_eq_false, Bool.false_eq_true, FX12_bound, PX12_bound, hr, hb, FX12_of, PX12_of, m_at, r9, r10, r11, r3, hre, LX12_bound_200, LX12_bound_204, r1, r2, s_cw, az_c1, k_s_354, k_f_354_0, k_f_354_1, k_f_354_3, k_f_354_6, k_f_354_8, k_f_354_9, k_f_354_10, k_f_354_11, k_f_354_12, k_f_354_13, k_f_354_14, k_f_354_15, k_f_354_16, k_f_354_17, k_f_354_18, k_f_354_19, k_f_354_20, k_f_354_21, k_f_354_22, k_f_354_24, k_f_354_25, k_f_354_30, k_f_354_31, k_s_355, k_s_356, k_s_357, k_s_358, k_s_359, k_s_360, k_s_361, k_s_362, k_s_363, k_s_364, k_s_365, k_s_366, k_s_367, k_s_368, k_s_369, k_s_370, k_s_371, k_s_372, k_s_373, k_s_374, k_s_375, k_s_376, k_s_377, k_s_378, k_s_379, vu_n, vu_na, vu_ns, up_na]
      refine ⟨fun e => fin2 _ _ rfl ?_, fun e => fin2 _ _ rfl ?_⟩
      · show _ = if pT S u 3 < rs then pT S u 2 else pT S u 1
        first | rw [if_pos e] | rw [if_neg (Int32.not_lt.mpr e)]
      · show _ = if pT S u 3 < rs then pT S u 2 else pT S u 1
        first | rw [if_pos (Int32.not_le.mp e)] | rw [if_neg e]
    · rw [hub] at hb fin
      have fin2 : ∀ I2, I2 = az_up (az_up (az_up (az_up (az_up I 363 (6 * h + u) (nI 0)) 364 (6 * h + u) (nI 0)) 367 (6 * h + u) (nI 0)) 363 (6 * h + u) (mxI (pT S u 9) (pv - pT S u 11))) 364 (6 * h + u) (mnI (pT S u 10) (pv + pT S u 11)) → Q none (K0, I2, R) := by
        intro I2 hI
        subst hI
        refine fin _ ?_ ?_ ?_ (fun q j z => by rw [upN (by omega), upN (by omega), upN (by omega), upN (by omega), upN (by omega)])
        · rw [upN (by omega), upS ⟨rfl, rfl⟩]; rfl
        · rw [upS ⟨rfl, rfl⟩]; rfl
        · rw [upN (by omega), upN (by omega), upS ⟨rfl, rfl⟩]; rfl
      clear fin
      rcases hpv with ⟨e0, e1⟩ | ⟨e0, e1⟩
      · have e0' : (h = 0) = True := eq_true e0
        subst e1
        simp (disch := omega) only [s_ic, s_li, s_la, s_si, s_sa, s_inc, s_bin, s_un, s_dup, s_dup2, s_pop, s_if, s_if2, s_gi, s_gr, s_pi, s_pz, s_al, s_aa, s_as, s_az, s_ac, s_mx, s_mn, s_cpy, s_kp, s_ri, s_rz, s_rv, s_cv, s_cs, s_rem, s_div, az_gl, az_sl, az_kp, az_pop, az_fun, az_funX, az_pat, az_in, List.map, List.replicate, List.length, List.cons_append, List.nil_append, Option.toList, f_add, f_sub, f_mul, f_neg, c_eq, c_ne, c_lt, c_ge, c_gt, c_le, d_eq, d_ne, d_lt, d_ge, d_gt, d_le, vinT, nIclamp, nIadd, nImul, nIeq, nIle, nIlt, nIlt0, nIge0, nIgt0, nIle0, nIeq0, ltT, ltF, leT, leF, eqT, eqF, upS, upN, k_n, az_setI, az_setA, true_and, and_true, and_self, true_implies, false_implies, implies_true, not_true_eq_false, not_false_eq_true, Nat.add_zero, Nat.zero_add, Nat.reduceAdd, Nat.reduceSub, Nat.reduceMul, Nat.reduceLT, Nat.reduceLeDiff, Nat.reduceEqDiff, Nat.reducePow, reduceIte, ne_eq, false_and, and_false, exists_eq_left', or_true, true_or, or_false, false_or, nI1one, nI0one, bI0, bI1, bIor, bI_z, bI_1, Bool.not_eq_true, Bool.not_eq_false, Bool.true_eq_false, Bool.false_eq_true, FX12_bound, PX12_bound, hr, hb, FX12_of, PX12_of, m_at, r9, r10, r11, r7, e0', LX12_bound_70, LX12_bound_204, k_s_354, k_f_354_0, k_f_354_1, k_f_354_3, k_f_354_6, k_f_354_8, k_f_354_9, k_f_354_10, k_f_354_11, k_f_354_12, k_f_354_13, k_f_354_14, k_f_354_15, k_f_354_16, k_f_354_17, k_f_354_18, k_f_354_19, k_f_354_20, k_f_354_21, k_f_354_22, k_f_354_24, k_f_354_25, k_f_354_30, k_f_354_31, k_s_355, k_s_356, k_s_357, k_s_358, k_s_359, k_s_360, k_s_361, k_s_362, k_s_363, k_s_364, k_s_365, k_s_366, k_s_367, k_s_368, k_s_369, k_s_370, k_s_371, k_s_372, k_s_373, k_s_374, k_s_375, k_s_376, k_s_377, k_s_378, k_s_379, vu_n, vu_na, vu_ns, up_na]
        exact fin2 _ rfl
      · have ei : 6 * h + u - 6 = 6 * (h - 1) + u := by omega
        simp (disch := omega) only [s_ic, s_li, s_la, s_si, s_sa, s_inc, s_bin, s_un, s_dup, s_dup2, s_pop, s_if, s_if2, s_gi, s_gr, s_pi, s_pz, s_al, s_aa, s_as, s_az, s_ac, s_mx, s_mn, s_cpy, s_kp, s_ri, s_rz, s_rv, s_cv, s_cs, s_rem, s_div, az_gl, az_sl, az_kp, az_pop, az_fun, az_funX, az_pat, az_in, List.map, List.replicate, List.length, List.cons_append, List.nil_append, Option.toList, f_add, f_sub, f_mul, f_neg, c_eq, c_ne, c_lt, c_ge, c_gt, c_le, d_eq, d_ne, d_lt, d_ge, d_gt, d_le, vinT, nIclamp, nIadd, nImul, nIeq, nIle, nIlt, nIlt0, nIge0, nIgt0, nIle0, nIeq0, ltT, ltF, leT, leF, eqT, eqF, upS, upN, k_n, az_setI, az_setA, true_and, and_true, and_self, true_implies, false_implies, implies_true, not_true_eq_false, not_false_eq_true, Nat.add_zero, Nat.zero_add, Nat.reduceAdd, Nat.reduceSub, Nat.reduceMul, Nat.reduceLT, Nat.reduceLeDiff, Nat.reduceEqDiff, Nat.reducePow, reduceIte, ne_eq, false_and, and_false, exists_eq_left', or_true, true_or, or_false, false_or, nI1one, nI0one, bI0, bI1, bIor, bI_z, bI_1, Bool.not_eq_true, Bool.not_eq_false, Bool.true_eq_false, Bool.false_eq_true, FX12_bound, PX12_bound, hr, hb, FX12_of, PX12_of, m_at, r9, r10, r11, e0, nIsub, ei, e1, LX12_bound_70, LX12_bound_204, k_s_354, k_f_354_0, k_f_354_1, k_f_354_3, k_f_354_6, k_f_354_8, k_f_354_9, k_f_354_10, k_f_354_11, k_f_354_12, k_f_354_13, k_f_354_14, k_f_354_15, k_f_354_16, k_f_354_17, k_f_354_18, k_f_354_19, k_f_354_20, k_f_354_21, k_f_354_22, k_f_354_24, k_f_354_25, k_f_354_30, k_f_354_31, k_s_355, k_s_356, k_s_357, k_s_358, k_s_359, k_s_360, k_s_361, k_s_362, k_s_363, k_s_364, k_s_365, k_s_366, k_s_367, k_s_368, k_s_369, k_s_370, k_s_371, k_s_372, k_s_373, k_s_374, k_s_375, k_s_376, k_s_377, k_s_378, k_s_379, vu_n, vu_na, vu_ns, up_na]
        exact fin2 _ rfl
