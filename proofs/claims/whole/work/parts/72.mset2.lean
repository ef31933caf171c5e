set_option maxRecDepth 100000
set_option maxHeartbeats 2000000
theorem m_start {I : Nat → Nat → Int32} {R : RT} {H B : Nat} {Q : Option Value → az_M → Prop} (hQ : ∀ I', CM (S0 H B) (I' 355) → I' 354 4 = nI 0 → I' 354 7 = bI false → (∀ q j, q ≠ 355 → ¬ (q = 354 ∧ (j = 4 ∨ j = 7)) → I' q j = I q j) → Q none (K0, I', R)) : FX12_start [.ref 354, .int (nI H), .int (nI B)] (K0, I, R) Q := by
  simp (disch := omega) only [s_ic, s_li, s_la, s_si, s_sa, s_inc, s_bin, s_un, s_dup, s_dup2, s_pop, s_if, s_if2, s_gi, s_gr, s_pi, s_pz, s_al, s_aa, s_as, s_az, s_ac, s_mx, s_mn, s_cpy, s_kp, s_ri, s_rz, s_rv, s_cv, s_cs, s_rem, s_div, az_gl, az_sl, az_kp, az_pop, az_fun, az_funX, az_pat, az_in, List.map, List.replicate, List.length, List.cons_append, List.nil_append, Option.toList, f_add, f_sub, f_mul, f_neg, c_eq, c_ne, c_lt, c_ge, c_gt, c_le, d_eq, d_ne, d_lt, d_ge, d_gt, d_le, vinT, nIclamp, nIadd, nImul, nIeq, nIle, nIlt, nIlt0, nIge0, nIgt0, nIle0, nIeq0, ltT, ltF, leT, leF, eqT, eqF, upS, upN, k_n, az_setI, az_setA, true_and, and_true, and_self, true_implies, false_implies, implies_true, not_true_eq_false, not_false_eq_true, Nat.add_zero, Nat.zero_add, Nat.reduceAdd, Nat.reduceSub, Nat.reduceMul, Nat.reduceLT, Nat.reduceLeDiff, Nat.reduceEqDiff, Nat.reducePow, reduceIte, ne_eq, false_and, and_false, exists_eq_left', or_true, true_or, or_false, false_or, nI1one, nI0one, bI0, bI1, bIor, bI_z, bI_1, Bool.not_eq_true, Bool.not_eq_false, Bool.true_eq_false, Bool.false_eq_true, FX12_start, PX12_start, LX12_start_2, k_s_354, k_f_354_0, k_f_354_1, k_f_354_3, k_f_354_6, k_f_354_8, k_f_354_9, k_f_354_10, k_f_354_11, k_f_354_12, k_f_354_13, k_f_354_14, k_f_354_15, k_f_354_16, k_f_354_17, k_f_354_18, k_f_354_19, k_f_354_20, k_f_354_21, k_f_354_22, k_f_354_24, k_f_354_25, k_f_354_30, k_f_354_31, k_s_355, k_s_356, k_s_357, k_s_358, k_s_359, k_s_360, k_s_361, k_s_362, k_s_363, k_s_364, k_s_365, k_s_366, k_s_367, k_s_368, k_s_369, k_s_370, k_s_371, k_s_372, k_s_373, k_s_374, k_s_375, k_s_376, k_s_377, k_s_378, k_s_379]
  refine lp_mem (q := (0, 0)) 235 (fun i => [some (.ref 354), some (.int (nI H)), some (.int (nI B)), some (.int (nI i))]) (fun i I1 => (∀ k, k < i → I1 355 k = nI 0) ∧ ∀ q j, q ≠ 355 → I1 q j = I q j) ⟨fun k z => absurd z (Nat.not_lt_zero _), fun _ _ _ => rfl⟩ ?_ ?_
  · intro i hi I1 ⟨g1, g2⟩ Z hZ
    have hi2 : ¬ 235 ≤ i := by omega
    simp (disch := omega) only [s_ic, s_li, s_la, s_si, s_sa, s_inc, s_bin, s_un, s_dup, s_dup2, s_pop, s_if, s_if2, s_gi, s_gr, s_pi, s_pz, s_al, s_aa, s_as, s_az, s_ac, s_mx, s_mn, s_cpy, s_kp, s_ri, s_rz, s_rv, s_cv, s_cs, s_rem, s_div, az_gl, az_sl, az_kp, az_pop, az_fun, az_funX, az_pat, az_in, List.map, List.replicate, List.length, List.cons_append, List.nil_append, Option.toList, f_add, f_sub, f_mul, f_neg, c_eq, c_ne, c_lt, c_ge, c_gt, c_le, d_eq, d_ne, d_lt, d_ge, d_gt, d_le, vinT, nIclamp, nIadd, nImul, nIeq, nIle, nIlt, nIlt0, nIge0, nIgt0, nIle0, nIeq0, ltT, ltF, leT, leF, eqT, eqF, upS, upN, k_n, az_setI, az_setA, true_and, and_true, and_self, true_implies, false_implies, implies_true, not_true_eq_false, not_false_eq_true, Nat.add_zero, Nat.zero_add, Nat.reduceAdd, Nat.reduceSub, Nat.reduceMul, Nat.reduceLT, Nat.reduceLeDiff, Nat.reduceEqDiff, Nat.reducePow, reduceIte, ne_eq, false_and, and_false, exists_eq_left', or_true, true_or, or_false, false_or, nI1one, nI0one, bI0, bI1, bIor, bI_z, bI_1, Bool.not_eq_true, Bool.not_eq_false, Bool.true_eq_false, Bool.false_eq_true, BX12_start_2, hi2, k_s_354, k_f_354_0, k_f_354_1, k_f_354_3, k_f_354_6, k_f_354_8, k_f_354_9, k_f_354_10, k_f_354_11, k_f_354_12, k_f_354_13, k_f_354_14, k_f_354_15, k_f_354_16, k_f_354_17, k_f_354_18, k_f_354_19, k_f_354_20, k_f_354_21, k_f_354_22, k_f_354_24, k_f_354_25, k_f_354_30, k_f_354_31, k_s_355, k_s_356, k_s_357, k_s_358, k_s_359, k_s_360, k_s_361, k_s_362, k_s_363, k_s_364, k_s_365, k_s_366, k_s_367, k_s_368, k_s_369, k_s_370, k_s_371, k_s_372, k_s_373, k_s_374, k_s_375, k_s_376, k_s_377, k_s_378, k_s_379]
    refine hZ _ ⟨fun k hk => ?_, fun q j z => ?_⟩
    · by_cases e : k = i
      · rw [upS ⟨rfl, e⟩]
      · rw [upN (by omega)]; exact g1 k (by omega)
    · rw [upN (by omega)]; exact g2 q j z
  · intro I1 ⟨g1, g2⟩ Z
    simp (disch := omega) only [s_ic, s_li, s_la, s_si, s_sa, s_inc, s_bin, s_un, s_dup, s_dup2, s_pop, s_if, s_if2, s_gi, s_gr, s_pi, s_pz, s_al, s_aa, s_as, s_az, s_ac, s_mx, s_mn, s_cpy, s_kp, s_ri, s_rz, s_rv, s_cv, s_cs, s_rem, s_div, az_gl, az_sl, az_kp, az_pop, az_fun, az_funX, az_pat, az_in, List.map, List.replicate, List.length, List.cons_append, List.nil_append, Option.toList, f_add, f_sub, f_mul, f_neg, c_eq, c_ne, c_lt, c_ge, c_gt, c_le, d_eq, d_ne, d_lt, d_ge, d_gt, d_le, vinT, nIclamp, nIadd, nImul, nIeq, nIle, nIlt, nIlt0, nIge0, nIgt0, nIle0, nIeq0, ltT, ltF, leT, leF, eqT, eqF, upS, upN, k_n, az_setI, az_setA, true_and, and_true, and_self, true_implies, false_implies, implies_true, not_true_eq_false, not_false_eq_true, Nat.add_zero, Nat.zero_add, Nat.reduceAdd, Nat.reduceSub, Nat.reduceMul, Nat.reduceLT, Nat.reduceLeDiff, Nat.reduceEqDiff, Nat.reducePow, reduceIte, ne_eq, false_and, and_false, exists_eq_left', or_true, true_or, or_false, false_or, nI1one, nI0one, bI0, bI1, bIor, bI_z, bI_1, Bool.not_eq_true, Bool.not_eq_false, Bool.true_eq_false, Bool.false_eq_true, BX12_start_2, LX12_start_38, k_s_354, k_f_354_0, k_f_354_1, k_f_354_3, k_f_354_6, k_f_354_8, k_f_354_9, k_f_354_10, k_f_354_11, k_f_354_12, k_f_354_13, k_f_354_14, k_f_354_15, k_f_354_16, k_f_354_17, k_f_354_18, k_f_354_19, k_f_354_20, k_f_354_21, k_f_354_22, k_f_354_24, k_f_354_25, k_f_354_30, k_f_354_31, k_s_355, k_s_356, k_s_357, k_s_358, k_s_359, k_s_360, k_s_361, k_s_362, k_s_363, k_s_364, k_s_365, k_s_366, k_s_367, k_s_368, k_s_369, k_s_370, k_s_371, k_s_372, k_s_373, k_s_374, k_s_375, k_s_376, k_s_377, k_s_378, k_s_379]
    refine lp_mem (q := (0, 0)) 4 (fun i => [some (.ref 354), none, none, some (.int (nI i))]) (fun i I2 => I2 355 0 = nI H ∧ I2 355 1 = nI B ∧ (∀ k, 2 ≤ k → k < 235 → k < 125 ∨ 133 ≤ k → I2 355 k = nI 0) ∧ (∀ c, c < i → I2 355 (125 + c) = nI c - nI 1 ∧ I2 355 (129 + c) = if c = 0 then nI 0 else nI 100) ∧ ∀ q j, q ≠ 355 → I2 q j = I q j) ⟨?_, ?_, fun k z1 z2 z3 => ?_, fun k z => absurd z (Nat.not_lt_zero _), fun q j z => ?_⟩ ?_ ?_
    · rw [upN (by omega), upS ⟨rfl, rfl⟩]
    · rw [upS ⟨rfl, rfl⟩]
    · rw [upN (by omega), upN (by omega)]; exact g1 k z2
    · rw [upN (by omega), upN (by omega)]; exact g2 q j z
    · intro i hi I2 ⟨k1, k2, k3, k4, k5⟩ Z2 hZ2
      have hi2 : ¬ 4 ≤ i := by omega
      have fin : ∀ v, v = (if i = 0 then nI 0 else nI 100) → Z2 [some (.ref 354), none, none, some (.int (nI (i + 1)))] [] (0, 0) (K0, az_up (az_up I2 355 (125 + i) (nI i - nI 1)) 355 (129 + i) v, R) := by
        intro v hv
        refine hZ2 _ ⟨?_, ?_, fun k z1 z2 z3 => ?_, fun c hc => ?_, fun q j z => ?_⟩
        · rw [upN (by omega), upN (by omega)]; exact k1
        · rw [upN (by omega), upN (by omega)]; exact k2
        · rw [upN (by omega), upN (by omega)]; exact k3 k z1 z2 z3
        · by_cases e : c = i
          · subst e; rw [upN (by omega), upS ⟨rfl, rfl⟩, upS ⟨rfl, rfl⟩]; exact ⟨rfl, hv⟩
          · rw [upN (by omega), upN (by omega), upN (by omega), upN (by omega)]; exact k4 c (by omega)
        · rw [upN (by omega), upN (by omega)]; exact k5 q j z
      simp (disch := omega) only [s_ic, s_li, s_la, s_si, s_sa, s_inc, s_bin, s_un, s_dup, s_dup2, s_pop, s_if, s_if2, s_gi, s_gr, s_pi, s_pz, s_al, s_aa, s_as, s_az, s_ac, s_mx, s_mn, s_cpy, s_kp, s_ri, s_rz, s_rv, s_cv, s_cs, s_rem, s_div, az_gl, az_sl, az_kp, az_pop, az_fun, az_funX, az_pat, az_in, List.map, List.replicate, List.length, List.cons_append, List.nil_append, Option.toList, f_add, f_sub, f_mul, f_neg, c_eq, c_ne, c_lt, c_ge, c_gt, c_le, d_eq, d_ne, d_lt, d_ge, d_gt, d_le, vinT, nIclamp, nIadd, nImul, nIeq, nIle, nIlt, nIlt0, nIge0, nIgt0, nIle0, nIeq0, ltT, ltF, leT, leF, eqT, eqF, upS, upN, k_n, az_setI, az_setA, true_and, and_true, and_self, true_implies, false_implies, implies_true, not_true_eq_false, not_false_eq_true, Nat.add_zero, Nat.zero_add, Nat.reduceAdd, Nat.reduceSub, Nat.reduceMul, Nat.reduceLT, Nat.reduceLeDiff, Nat.reduceEqDiff, Nat.reducePow, reduceIte, ne_eq, false_and, and_false, exists_eq_left', or_true, true_or, or_false, false_or, nI1one, nI0one, bI0, bI1, bIor, bI_z, bI_1, Bool.not_eq_true, Bool.not_eq_false, Bool.true_eq_false, Bool.false_eq_true, BX12_start_38, hi2, LX12_start_74, k_s_354, k_f_354_0, k_f_354_1, k_f_354_3, k_f_354_6, k_f_354_8, k_f_354_9, k_f_354_10, k_f_354_11, k_f_354_12, k_f_354_13, k_f_354_14, k_f_354_15, k_f_354_16, k_f_354_17, k_f_354_18, k_f_354_19, k_f_354_20, k_f_354_21, k_f_354_22, k_f_354_24, k_f_354_25, k_f_354_30, k_f_354_31, k_s_355, k_s_356, k_s_357, k_s_358, k_s_359, k_s_360, k_s_361, k_s_362, k_s_363, k_s_364, k_s_365, k_s_366, k_s_367, k_s_368, k_s_369, k_s_370, k_s_371, k_s_372, k_s_373, k_s_374, k_s_375, k_s_376, k_s_377, k_s_378, k_s_379]
      exact ⟨fun e => fin _ (by rw [if_neg e]), fun e => fin _ (by rw [if_pos (Classical.not_not.mp e)])⟩
    · intro I2 ⟨k1, k2, k3, k4, k5⟩ Z2
      simp (disch := omega) only [s_ic, s_li, s_la, s_si, s_sa, s_inc, s_bin, s_un, s_dup, s_dup2, s_pop, s_if, s_if2, s_gi, s_gr, s_pi, s_pz, s_al, s_aa, s_as, s_az, s_ac, s_mx, s_mn, s_cpy, s_kp, s_ri, s_rz, s_rv, s_cv, s_cs, s_rem, s_div, az_gl, az_sl, az_kp, az_pop, az_fun, az_funX, az_pat, az_in, List.map, List.replicate, List.length, List.cons_append, List.nil_append, Option.toList, f_add, f_sub, f_mul, f_neg, c_eq, c_ne, c_lt, c_ge, c_gt, c_le, d_eq, d_ne, d_lt, d_ge, d_gt, d_le, vinT, nIclamp, nIadd, nImul, nIeq, nIle, nIlt, nIlt0, nIge0, nIgt0, nIle0, nIeq0, ltT, ltF, leT, leF, eqT, eqF, upS, upN, k_n, az_setI, az_setA, true_and, and_true, and_self, true_implies, false_implies, implies_true, not_true_eq_false, not_false_eq_true, Nat.add_zero, Nat.zero_add, Nat.reduceAdd, Nat.reduceSub, Nat.reduceMul, Nat.reduceLT, Nat.reduceLeDiff, Nat.reduceEqDiff, Nat.reducePow, reduceIte, ne_eq, false_and, and_false, exists_eq_left', or_true, true_or, or_false, false_or, nI1one, nI0one, bI0, bI1, bIor, bI_z, bI_1, Bool.not_eq_true, Bool.not_eq_false, Bool.true_eq_false, Bool.false_eq_true, BX12_start_38, k_s_354, k_f_354_0, k_f_354_1, k_f_354_3, k_f_354_6, k_f_354_8, k_f_354_9, k_f_354_10, k_f_354_11, k_f_354_12, k_f_354_13, k_f_354_14, k_f_354_15, k_f_354_16, k_f_354_17, k_f_354_18, k_f_354_19, k_f_354_20, k_f_354_21, k_f_354_22, k_f_354_24, k_f_354_25, k_f_354_30, k_f_354_31, k_s_355, k_s_356, k_s_357, k_s_358, k_s_359, k_s_360, k_s_361, k_s_362, k_s_363, k_s_364, k_s_365, k_s_366, k_s_367, k_s_368, k_s_369, k_s_370, k_s_371, k_s_372, k_s_373, k_s_374, k_s_375, k_s_376, k_s_377, k_s_378, k_s_379]
      refine hQ _ ?_ (by rw [upN (by omega), upS ⟨rfl, rfl⟩]) (by rw [upS ⟨rfl, rfl⟩]; rfl) (fun q j z1 z2 => by rw [upN (by omega), upN (by omega)]; exact k5 q j z1)
      refine ⟨?_, ?_, ?_, ?_, ?_, fun c h hc hh => ?_, fun h hh => ?_, ⟨?_, ?_⟩, fun c q1 q2 => ?_, fun c q1 q2 => ?_, fun o ho => absurd ho (Nat.not_lt_zero _), fun o ho => absurd ho (Nat.not_lt_zero _), fun o ho => absurd ho (Nat.not_lt_zero _), fun o k ho => absurd ho (Nat.not_lt_zero _), fun o ho => absurd ho (Nat.not_lt_zero _)⟩
      · rw [upN (by omega), upN (by omega)]; exact k1
      · rw [upN (by omega), upN (by omega)]; exact k2
      · rw [upN (by omega), upN (by omega)]; exact k3 _ (by omega) (by omega) (by omega)
      · rw [upN (by omega), upN (by omega)]; exact k3 _ (by omega) (by omega) (by omega)
      · rw [upN (by omega), upN (by omega)]; exact k3 _ (by omega) (by omega) (by omega)
      · rw [upN (by omega), upN (by omega)]; exact k3 _ (by omega) (by omega) (by omega)
      · rw [upN (by omega), upN (by omega)]; exact k3 _ (by omega) (by omega) (by omega)
      · rw [upN (by omega), upN (by omega)]; exact (k4 0 (by omega)).1
      · rw [upN (by omega), upN (by omega)]; exact (k4 0 (by omega)).2
      · rw [upN (by omega), upN (by omega), (k4 c q2).1, nIsub q1]; rfl
      · rw [upN (by omega), upN (by omega), (k4 c q2).2, if_neg (by omega)]; rfl
theorem m_size {I : Nat → Nat → Int32} {R : RT} {A : AT} {x y : Int32} {Q : Option Value → az_M → Prop} (hA : AV A) (hM : MR A I) (hQ : fnM Q I R (spSize A x y)) : FX12_size [.ref 354, .int x, .int y] (K0, I, R) Q := by
  have hV := hA.1
  have hS := hM.1
  unfold spSize at hQ
  simp (disch := omega) only [s_ic, s_li, s_la, s_si, s_sa, s_inc, s_bin, s_un, s_dup, s_dup2, s_pop, s_if, s_if2, s_gi, s_gr, s_pi, s_pz, s_al, s_aa, s_as, s_az, s_ac, s_mx, s_mn, s_cpy, s_kp, s_ri, s_rz, s_rv, s_cv, s_cs, s_rem, s_div, az_gl, az_sl, az_kp, az_pop, az_fun, az_funX, az_pat, az_in, List.map, List.replicate, List.length, List.cons_append, List.nil_append, Option.toList, f_add, f_sub, f_mul, f_neg, c_eq, c_ne, c_lt, c_ge, c_gt, c_le, d_eq, d_ne, d_lt, d_ge, d_gt, d_le, vinT, nIclamp, nIadd, nImul, nIeq, nIle, nIlt, nIlt0, nIge0, nIgt0, nIle0, nIeq0, ltT, ltF, leT, leF, eqT, eqF, upS, upN, k_n, az_setI, az_setA, true_and, and_true, and_self, true_implies, false_implies, implies_true, not_true_eq_false, not_false_eq_true, Nat.add_zero, Nat.zero_add, Nat.reduceAdd, Nat.reduceSub, Nat.reduceMul, Nat.reduceLT, Nat.reduceLeDiff, Nat.reduceEqDiff, Nat.reducePow, reduceIte, ne_eq, false_and, and_false, exists_eq_left', or_true, true_or, or_false, false_or, nI1one, nI0one, bI0, bI1, bIor, bI_z, bI_1, Bool.not_eq_true, Bool.not_eq_false, Bool.true_eq_false, Bool.false_eq_true, FX12_size, PX12_size, LX12_size_25, LX12_size_24, m_in, hS.2.2.1, k_s_354, k_f_354_0, k_f_354_1, k_f_354_3, k_f_354_6, k_f_354_8, k_f_354_9, k_f_354_10, k_f_354_11, k_f_354_12, k_f_354_13, k_f_354_14, k_f_354_15, k_f_354_16, k_f_354_17, k_f_354_18, k_f_354_19, k_f_354_20, k_f_354_21, k_f_354_22, k_f_354_24, k_f_354_25, k_f_354_30, k_f_354_31, k_s_355, k_s_356, k_s_357, k_s_358, k_s_359, k_s_360, k_s_361, k_s_362, k_s_363, k_s_364, k_s_365, k_s_366, k_s_367, k_s_368, k_s_369, k_s_370, k_s_371, k_s_372, k_s_373, k_s_374, k_s_375, k_s_376, k_s_377, k_s_378, k_s_379]
  refine ⟨fun e => ?_, fun e1 => ⟨fun e2 => ?_, fun e2 => ?_⟩⟩
  · rw [if_pos (Or.inl e)] at hQ; exact fnM_t hM hQ
  · rw [if_pos (Or.inr e2)] at hQ; exact fnM_t hM hQ
  · rw [if_neg (by rw [e1, e2]; simp)] at hQ
    obtain ⟨H, h1, h2, rfl⟩ := inW_t (by omega) (by omega) e1
    obtain ⟨B, b1, b2, rfl⟩ := inW_t (by omega) (by omega) e2
    unfold iN at hQ
    rw [nI_clamp (by omega), nI_clamp (by omega)] at hQ
    refine m_start (fun I1 a1 a2 a3 a4 => ?_)
    simp (disch := omega) only [s_ic, s_li, s_la, s_si, s_sa, s_inc, s_bin, s_un, s_dup, s_dup2, s_pop, s_if, s_if2, s_gi, s_gr, s_pi, s_pz, s_al, s_aa, s_as, s_az, s_ac, s_mx, s_mn, s_cpy, s_kp, s_ri, s_rz, s_rv, s_cv, s_cs, s_rem, s_div, az_gl, az_sl, az_kp, az_pop, az_fun, az_funX, az_pat, az_in, List.map, List.replicate, List.length, List.cons_append, List.nil_append, Option.toList, f_add, f_sub, f_mul, f_neg, c_eq, c_ne, c_lt, c_ge, c_gt, c_le, d_eq, d_ne, d_lt, d_ge, d_gt, d_le, vinT, nIclamp, nIadd, nImul, nIeq, nIle, nIlt, nIlt0, nIge0, nIgt0, nIle0, nIeq0, ltT, ltF, leT, leF, eqT, eqF, upS, upN, k_n, az_setI, az_setA, true_and, and_true, and_self, true_implies, false_implies, implies_true, not_true_eq_false, not_false_eq_true, Nat.add_zero, Nat.zero_add, Nat.reduceAdd, Nat.reduceSub, Nat.reduceMul, Nat.reduceLT, Nat.reduceLeDiff, Nat.reduceEqDiff, Nat.reducePow, reduceIte, ne_eq, false_and, and_false, exists_eq_left', or_true, true_or, or_false, false_or, nI1one, nI0one, bI0, bI1, bIor, bI_z, bI_1, Bool.not_eq_true, Bool.not_eq_false, Bool.true_eq_false, Bool.false_eq_true, k_s_354, k_f_354_0, k_f_354_1, k_f_354_3, k_f_354_6, k_f_354_8, k_f_354_9, k_f_354_10, k_f_354_11, k_f_354_12, k_f_354_13, k_f_354_14, k_f_354_15, k_f_354_16, k_f_354_17, k_f_354_18, k_f_354_19, k_f_354_20, k_f_354_21, k_f_354_22, k_f_354_24, k_f_354_25, k_f_354_30, k_f_354_31, k_s_355, k_s_356, k_s_357, k_s_358, k_s_359, k_s_360, k_s_361, k_s_362, k_s_363, k_s_364, k_s_365, k_s_366, k_s_367, k_s_368, k_s_369, k_s_370, k_s_371, k_s_372, k_s_373, k_s_374, k_s_375, k_s_376, k_s_377, k_s_378, k_s_379]
    obtain ⟨-, -, hsv, ⟨t1, t2, t3⟩, -⟩ := hM
    have e6 : I1 356 = I 356 := funext (fun j => by rw [a4 _ _ (by omega) (by omega), upN (by omega)])
    exact hQ I1 ⟨a1, ⟨a2, fun i hi => absurd hi (Nat.not_lt_zero _)⟩, ⟨by rw [a4 _ _ (by omega) (by omega), upN (by omega)]; exact hsv.1, fun V hVV => by rw [e6]; exact hsv.2 V hVV⟩, ⟨by rw [a4 _ _ (by omega) (by omega), upN (by omega)]; exact t1, by rw [a4 _ _ (by omega) (by omega), upN (by omega)]; exact t2, fun j hj => by rw [a4 _ _ (by omega) (by omega), upN (by omega)]; exact t3 j hj⟩, false, a3, fun z => absurd z (by decide)⟩ (by rw [a4 _ _ (by omega) (by omega), upS ⟨rfl, rfl⟩]; rfl) (fun q j z => by rw [a4 _ _ (by omega) (by omega), upN (by omega)])
theorem m_addUnit {I : Nat → Nat → Int32} {R : RT} {A : AT} {b lo hi ra co : Int32} {Q : Option Value → az_M → Prop} (hA : AV A) (hM : MR A I) (hQ : fnM Q I R (spAddU A b lo hi ra co)) : FX12_addUnit [.ref 354, .int b, .int lo, .int hi, .int ra, .int co] (K0, I, R) Q := by
  have hV := hA.1
  have hS := hM.1
  have hUU := hV.2.2.2.1
  unfold spAddU at hQ
  have go : ∀ g, (g = true ↔ ¬ (inW (nI 0) (nI 500) lo = false ∨ inW (mxI lo (nI 1)) (nI 500) hi = false ∨ inW (nI 1) (nI 500) ra = false ∨ inW (nI 0) (nI 100) co = false)) → LX12_addUnit_54 Q [some (.ref 354), some (.int b), some (.int lo), some (.int hi), some (.int ra), some (.int co), none, none, none] [.int (bI g)] (0, 0) (K0, I, R) := by
    intro g hg
    simp (disch := omega) only [s_ic, s_li, s_la, s_si, s_sa, s_inc, s_bin, s_un, s_dup, s_dup2, s_pop, s_if, s_if2, s_gi, s_gr, s_pi, s_pz, s_al, s_aa, s_as, s_az, s_ac, s_mx, s_mn, s_cpy, s_kp, s_ri, s_rz, s_rv, s_cv, s_cs, s_rem, s_div, az_gl, az_sl, az_kp, az_pop, az_fun, az_funX, az_pat, az_in, List.map, List.replicate, List.length, List.cons_append, List.nil_append, Option.toList, f_add, f_sub, f_mul, f_neg, c_eq, c_ne, c_lt, c_ge, c_gt, c_le, d_eq, d_ne, d_lt, d_ge, d_gt, d_le, vinT, nIclamp, nIadd, nImul, nIeq, nIle, nIlt, nIlt0, nIge0, nIgt0, nIle0, nIeq0, ltT, ltF, leT, leF, eqT, eqF, upS, upN, k_n, az_setI, az_setA, true_and, and_true, and_self, true_implies, false_implies, implies_true, not_true_eq_false, not_false_eq_true, Nat.add_zero, Nat.zero_add, Nat.reduceAdd, Nat.reduceSub, Nat.reduceMul, Nat.reduceLT, Nat.reduceLeDiff, Nat.reduceEqDiff, Nat.reducePow, reduceIte, ne_eq, false_and, and_false, exists_eq_left', or_true, true_or, or_false, false_or, nI1one, nI0one, bI0, bI1, bIor, bI_z, bI_1, Bool.not_eq_true, Bool.not_eq_false, Bool.true_eq_false, Bool.false_eq_true, LX12_addUnit_54, LX12_addUnit_94, m_isBus hS, hS.2.2.1, k_s_354, k_f_354_0, k_f_354_1, k_f_354_3, k_f_354_6, k_f_354_8, k_f_354_9, k_f_354_10, k_f_354_11, k_f_354_12, k_f_354_13, k_f_354_14, k_f_354_15, k_f_354_16, k_f_354_17, k_f_354_18, k_f_354_19, k_f_354_20, k_f_354_21, k_f_354_22, k_f_354_24, k_f_354_25, k_f_354_30, k_f_354_31, k_s_355, k_s_356, k_s_357, k_s_358, k_s_359, k_s_360, k_s_361, k_s_362, k_s_363, k_s_364, k_s_365, k_s_366, k_s_367, k_s_368, k_s_369, k_s_370, k_s_371, k_s_372, k_s_373, k_s_374, k_s_375, k_s_376, k_s_377, k_s_378, k_s_379]
    refine ⟨fun e1 => ⟨fun e2 => ⟨fun e3 => ?_, fun e3 => ?_⟩, fun e2 => ?_⟩, fun e1 => ?_⟩
    · rw [if_neg (by rw [e1]; simp), if_neg (hg.mp e2), if_neg (by omega)] at hQ
      have hB := hV.2.1.2
      obtain ⟨c, hc, rfl⟩ := isB_t (by omega) e1
      unfold iN at hQ
      rw [nI_clamp (by omega)] at hQ
      refine m_chg hA hM hQ (fun I1 hS1 k => ?_)
      simp (disch := omega) only [s_ic, s_li, s_la, s_si, s_sa, s_inc, s_bin, s_un, s_dup, s_dup2, s_pop, s_if, s_if2, s_gi, s_gr, s_pi, s_pz, s_al, s_aa, s_as, s_az, s_ac, s_mx, s_mn, s_cpy, s_kp, s_ri, s_rz, s_rv, s_cv, s_cs, s_rem, s_div, az_gl, az_sl, az_kp, az_pop, az_fun, az_funX, az_pat, az_in, List.map, List.replicate, List.length, List.cons_append, List.nil_append, Option.toList, f_add, f_sub, f_mul, f_neg, c_eq, c_ne, c_lt, c_ge, c_gt, c_le, d_eq, d_ne, d_lt, d_ge, d_gt, d_le, vinT, nIclamp, nIadd, nImul, nIeq, nIle, nIlt, nIlt0, nIge0, nIgt0, nIle0, nIeq0, ltT, ltF, leT, leF, eqT, eqF, upS, upN, k_n, az_setI, az_setA, true_and, and_true, and_self, true_implies, false_implies, implies_true, not_true_eq_false, not_false_eq_true, Nat.add_zero, Nat.zero_add, Nat.reduceAdd, Nat.reduceSub, Nat.reduceMul, Nat.reduceLT, Nat.reduceLeDiff, Nat.reduceEqDiff, Nat.reducePow, reduceIte, ne_eq, false_and, and_false, exists_eq_left', or_true, true_or, or_false, false_or, nI1one, nI0one, bI0, bI1, bIor, bI_z, bI_1, Bool.not_eq_true, Bool.not_eq_false, Bool.true_eq_false, Bool.false_eq_true, LX12_addUnit_121, hS1.2.2.1, k_s_354, k_f_354_0, k_f_354_1, k_f_354_3, k_f_354_6, k_f_354_8, k_f_354_9, k_f_354_10, k_f_354_11, k_f_354_12, k_f_354_13, k_f_354_14, k_f_354_15, k_f_354_16, k_f_354_17, k_f_354_18, k_f_354_19, k_f_354_20, k_f_354_21, k_f_354_22, k_f_354_24, k_f_354_25, k_f_354_30, k_f_354_31, k_s_355, k_s_356, k_s_357, k_s_358, k_s_359, k_s_360, k_s_361, k_s_362, k_s_363, k_s_364, k_s_365, k_s_366, k_s_367, k_s_368, k_s_369, k_s_370, k_s_371, k_s_372, k_s_373, k_s_374, k_s_375, k_s_376, k_s_377, k_s_378, k_s_379]
      refine lp_mem (q := (0, 0)) 14 (fun i => [some (.ref 354), some (.int (nI c)), some (.int lo), some (.int hi), some (.int ra), some (.int co), none, some (.int (nI (pU A.1))), some (.int (nI i))]) (fun i I2 => (∀ k, k < i → I2 355 (151 + 14 * pU A.1 + k) = nI 0) ∧ (∀ j, (j < 151 + 14 * pU A.1) → I2 355 j = I1 355 j) ∧ ∀ q j, q ≠ 355 → I2 q j = I1 q j) ⟨fun k z => absurd z (Nat.not_lt_zero _), fun _ _ => rfl, fun _ _ _ => rfl⟩ ?_ ?_
      · intro i hi I2 ⟨g1, g2, g3⟩ Z hZ
        have hi2 : ¬ 14 ≤ i := by omega
        simp (disch := omega) only [s_ic, s_li, s_la, s_si, s_sa, s_inc, s_bin, s_un, s_dup, s_dup2, s_pop, s_if, s_if2, s_gi, s_gr, s_pi, s_pz, s_al, s_aa, s_as, s_az, s_ac, s_mx, s_mn, s_cpy, s_kp, s_ri, s_rz, s_rv, s_cv, s_cs, s_rem, s_div, az_gl, az_sl, az_kp, az_pop, az_fun, az_funX, az_pat, az_in, List.map, List.replicate, List.length, List.cons_append, List.nil_append, Option.toList, f_add, f_sub, f_mul, f_neg, c_eq, c_ne, c_lt, c_ge, c_gt, c_le, d_eq, d_ne, d_lt, d_ge, d_gt, d_le, vinT, nIclamp, nIadd, nImul, nIeq, nIle, nIlt, nIlt0, nIge0, nIgt0, nIle0, nIeq0, ltT, ltF, leT, leF, eqT, eqF, upS, upN, k_n, az_setI, az_setA, true_and, and_true, and_self, true_implies, false_implies, implies_true, not_true_eq_false, not_false_eq_true, Nat.add_zero, Nat.zero_add, Nat.reduceAdd, Nat.reduceSub, Nat.reduceMul, Nat.reduceLT, Nat.reduceLeDiff, Nat.reduceEqDiff, Nat.reducePow, reduceIte, ne_eq, false_and, and_false, exists_eq_left', or_true, true_or, or_false, false_or, nI1one, nI0one, bI0, bI1, bIor, bI_z, bI_1, Bool.not_eq_true, Bool.not_eq_false, Bool.true_eq_false, Bool.false_eq_true, BX12_addUnit_121, hi2, m_at, k_s_354, k_f_354_0, k_f_354_1, k_f_354_3, k_f_354_6, k_f_354_8, k_f_354_9, k_f_354_10, k_f_354_11, k_f_354_12, k_f_354_13, k_f_354_14, k_f_354_15, k_f_354_16, k_f_354_17, k_f_354_18, k_f_354_19, k_f_354_20, k_f_354_21, k_f_354_22, k_f_354_24, k_f_354_25, k_f_354_30, k_f_354_31, k_s_355, k_s_356, k_s_357, k_s_358, k_s_359, k_s_360, k_s_361, k_s_362, k_s_363, k_s_364, k_s_365, k_s_366, k_s_367, k_s_368, k_s_369, k_s_370, k_s_371, k_s_372, k_s_373, k_s_374, k_s_375, k_s_376, k_s_377, k_s_378, k_s_379]
        refine hZ _ ⟨fun k hk => ?_, fun j hj => ?_, fun q j z => ?_⟩
        · by_cases e : k = i
          · rw [upS ⟨rfl, by omega⟩]
          · rw [upN (by omega)]; exact g1 k (by omega)
        · rw [upN (by omega)]; exact g2 j hj
        · rw [upN (by omega)]; exact g3 q j z
      · intro I2 ⟨g1, g2, g3⟩ Z
        have c2 : I2 355 2 = nI (pU A.1) := by rw [g2 _ (by omega)]; exact hS1.2.2.1
        simp (disch := omega) only [s_ic, s_li, s_la, s_si, s_sa, s_inc, s_bin, s_un, s_dup, s_dup2, s_pop, s_if, s_if2, s_gi, s_gr, s_pi, s_pz, s_al, s_aa, s_as, s_az, s_ac, s_mx, s_mn, s_cpy, s_kp, s_ri, s_rz, s_rv, s_cv, s_cs, s_rem, s_div, az_gl, az_sl, az_kp, az_pop, az_fun, az_funX, az_pat, az_in, List.map, List.replicate, List.length, List.cons_append, List.nil_append, Option.toList, f_add, f_sub, f_mul, f_neg, c_eq, c_ne, c_lt, c_ge, c_gt, c_le, d_eq, d_ne, d_lt, d_ge, d_gt, d_le, vinT, nIclamp, nIadd, nImul, nIeq, nIle, nIlt, nIlt0, nIge0, nIgt0, nIle0, nIeq0, ltT, ltF, leT, leF, eqT, eqF, upS, upN, k_n, az_setI, az_setA, true_and, and_true, and_self, true_implies, false_implies, implies_true, not_true_eq_false, not_false_eq_true, Nat.add_zero, Nat.zero_add, Nat.reduceAdd, Nat.reduceSub, Nat.reduceMul, Nat.reduceLT, Nat.reduceLeDiff, Nat.reduceEqDiff, Nat.reducePow, reduceIte, ne_eq, false_and, and_false, exists_eq_left', or_true, true_or, or_false, false_or, nI1one, nI0one, bI0, bI1, bIor, bI_z, bI_1, Bool.not_eq_true, Bool.not_eq_false, Bool.true_eq_false, Bool.false_eq_true, BX12_addUnit_121, m_at, c2, k_s_354, k_f_354_0, k_f_354_1, k_f_354_3, k_f_354_6, k_f_354_8, k_f_354_9, k_f_354_10, k_f_354_11, k_f_354_12, k_f_354_13, k_f_354_14, k_f_354_15, k_f_354_16, k_f_354_17, k_f_354_18, k_f_354_19, k_f_354_20, k_f_354_21, k_f_354_22, k_f_354_24, k_f_354_25, k_f_354_30, k_f_354_31, k_s_355, k_s_356, k_s_357, k_s_358, k_s_359, k_s_360, k_s_361, k_s_362, k_s_363, k_s_364, k_s_365, k_s_366, k_s_367, k_s_368, k_s_369, k_s_370, k_s_371, k_s_372, k_s_373, k_s_374, k_s_375, k_s_376, k_s_377, k_s_378, k_s_379]
        refine k _ ?_ (fun q j z => by (repeat rw [upN (by omega)]); exact g3 q j z)
        obtain ⟨r1, r2, r3, r4, r5, r6, r7, r8, r9, r10, r11, r12, r13, r14, r15⟩ := hS1
        have hO := hV.2.2.2.2.1
        refine ⟨?_, ?_, ?_, ?_, ?_, ?_, ?_, ⟨?_, ?_⟩, ?_, ?_, ?_, ?_, ?_, ?_, ?_⟩
        · repeat rw [upN (by omega)]
          rw [g2 _ (by omega)]; exact r1
        · repeat rw [upN (by omega)]
          rw [g2 _ (by omega)]; exact r2
        · rw [upS ⟨rfl, rfl⟩]; rfl
        · repeat rw [upN (by omega)]
          rw [g2 _ (by omega)]; exact r4
        · repeat rw [upN (by omega)]
          rw [g2 _ (by omega)]; exact r5
        · intro c h hc hh; repeat rw [upN (by omega)]
          rw [g2 _ (by omega)]; exact r6 c h hc hh
        · intro h hh; repeat rw [upN (by omega)]
          rw [g2 _ (by omega)]; exact r7 h hh
        · repeat rw [upN (by omega)]
          rw [g2 _ (by omega)]; exact r8.1
        · repeat rw [upN (by omega)]
          rw [g2 _ (by omega)]; exact r8.2
        · intro c hc hc2; repeat rw [upN (by omega)]
          rw [g2 _ (by omega)]; exact r9 c hc hc2
        · intro c hc hc2; repeat rw [upN (by omega)]
          rw [g2 _ (by omega)]; exact r10 c hc hc2
        · intro o ho; have ho' : o < pO A.1 := ho; repeat rw [upN (by omega)]
          rw [g2 _ (by omega)]; exact r11 o ho'
        · intro o ho; have ho' : o < pO A.1 := ho; repeat rw [upN (by omega)]
          rw [g2 _ (by omega)]; exact r12 o ho'
        · intro o ho; have ho' : o < pO A.1 := ho; repeat rw [upN (by omega)]
          rw [g2 _ (by omega)]; exact r13 o ho'
        · intro u k hu hk hk8
          have hu' : u < pU A.1 + 1 := hu
          show _ = if u = pU A.1 then nwT lo hi ra co k else pT A.1 u k
          by_cases e : u = pU A.1
          · rw [if_pos e, e]
            have : k = 0 ∨ k = 1 ∨ k = 2 ∨ k = 3 ∨ k = 4 ∨ k = 5 ∨ k = 6 ∨ k = 7 ∨ k = 9 ∨ k = 10 ∨ k = 11 ∨ k = 12 ∨ k = 13 := by omega
            rcases this with rfl | rfl | rfl | rfl | rfl | rfl | rfl | rfl | rfl | rfl | rfl | rfl | rfl
            · repeat rw [upN (by omega)]
              rw [g1 _ (by omega)]; rfl
            · repeat rw [upN (by omega)]
              rw [g1 _ (by omega)]; rfl
            · repeat rw [upN (by omega)]
              rw [g1 _ (by omega)]; rfl
            · repeat rw [upN (by omega)]
              rw [g1 _ (by omega)]; rfl
            · repeat rw [upN (by omega)]
              rw [upS ⟨rfl, rfl⟩]; rfl
            · repeat rw [upN (by omega)]
              rw [upS ⟨rfl, rfl⟩]; rfl
            · repeat rw [upN (by omega)]
              rw [upS ⟨rfl, rfl⟩]; rfl
            · repeat rw [upN (by omega)]
              rw [g1 _ (by omega)]; rfl
            · repeat rw [upN (by omega)]
              rw [upS ⟨rfl, rfl⟩]; rfl
            · repeat rw [upN (by omega)]
              rw [upS ⟨rfl, rfl⟩]; rfl
            · repeat rw [upN (by omega)]
              rw [upS ⟨rfl, rfl⟩]; rfl
            · repeat rw [upN (by omega)]
              rw [upS ⟨rfl, rfl⟩]; rfl
            · repeat rw [upN (by omega)]
              rw [g1 _ (by omega)]; rfl
          · repeat rw [upN (by omega)]
            rw [if_neg e, g2 _ (by omega)]; exact r14 u k (by omega) hk hk8
        · intro u hu
          have hu' : u < pU A.1 + 1 := hu
          show _ = nI (if u = pU A.1 then c else pBus A.1 u)
          by_cases e : u = pU A.1
          · rw [if_pos e, e]
            repeat rw [upN (by omega)]
            rw [upS ⟨rfl, rfl⟩]
          · repeat rw [upN (by omega)]
            rw [if_neg e, g2 _ (by omega)]; exact r15 u (by omega)
    · rw [if_neg (by rw [e1]; simp), if_neg (hg.mp e2), if_pos (by omega)] at hQ; exact fnM_t hM hQ
    · rw [if_neg (by rw [e1]; simp), if_pos (Classical.byContradiction (fun z => by rw [hg.mpr z] at e2; exact absurd e2 (by decide)))] at hQ; exact fnM_t hM hQ
    · rw [if_pos e1] at hQ; exact fnM_t hM hQ
  clear hQ
  simp (disch := omega) only [s_ic, s_li, s_la, s_si, s_sa, s_inc, s_bin, s_un, s_dup, s_dup2, s_pop, s_if, s_if2, s_gi, s_gr, s_pi, s_pz, s_al, s_aa, s_as, s_az, s_ac, s_mx, s_mn, s_cpy, s_kp, s_ri, s_rz, s_rv, s_cv, s_cs, s_rem, s_div, az_gl, az_sl, az_kp, az_pop, az_fun, az_funX, az_pat, az_in, List.map, List.replicate, List.length, List.cons_append, List.nil_append, Option.toList, f_add, f_sub, f_mul, f_neg, c_eq, c_ne, c_lt, c_ge, c_gt, c_le, d_eq, d_ne, d_lt, d_ge, d_gt, d_le, vinT, nIclamp, nIadd, nImul, nIeq, nIle, nIlt, nIlt0, nIge0, nIgt0, nIle0, nIeq0, ltT, ltF, leT, leF, eqT, eqF, upS, upN, k_n, az_setI, az_setA, true_and, and_true, and_self, true_implies, false_implies, implies_true, not_true_eq_false, not_false_eq_true, Nat.add_zero, Nat.zero_add, Nat.reduceAdd, Nat.reduceSub, Nat.reduceMul, Nat.reduceLT, Nat.reduceLeDiff, Nat.reduceEqDiff, Nat.reducePow, reduceIte, ne_eq, false_and, and_false, exists_eq_left', or_true, true_or, or_false, false_or, nI1one, nI0one, bI0, bI1, bIor, bI_z, bI_1, Bool.not_eq_true, Bool.not_eq_false, Bool.true_eq_false, Bool.false_eq_true, FX12_addUnit, PX12_addUnit, m_in, LX12_addUnit_53, k_s_354, k_f_354_0, k_f_354_1, k_f_354_3, k_f_354_6, k_f_354_8, k_f_354_9, k_f_354_10, k_f_354_11, k_f_354_12, k_f_354_13, k_f_354_14, k_f_354_15, k_f_354_16, k_f_354_17, k_f_354_18, k_f_354_19, k_f_354_20, k_f_354_21, k_f_354_22, k_f_354_24, k_f_354_25, k_f_354_30, k_f_354_31, k_s_355, k_s_356, k_s_357, k_s_358, k_s_359, k_s_360, k_s_361, k_s_362, k_s_363, k_s_364, k_s_365, k_s_366, k_s_367, k_s_368, k_s_369, k_s_370, k_s_371, k_s_372, k_s_373, k_s_374, k_s_375, k_s_376, k_s_377, k_s_378, k_s_379]
  rw [show (if nI 1 < lo then lo else nI 1) = mxI lo (nI 1) from ?_]
  · refine ⟨fun e => go false ?_, fun e1 => ⟨fun e => go false ?_, fun e2 => ⟨fun e => go false ?_, fun e3 => ⟨fun e => go false ?_, fun e4 => go true ?_⟩⟩⟩⟩
    · rw [e]; simp
    · rw [e]; simp
    · rw [e]; simp
    · rw [e]; simp
    · rw [e1, e2, e3, e4]; simp
  · unfold mxI
    apply Int32.toInt_inj.mp
    by_cases z : nI 1 < lo
    · rw [if_pos z, if_neg (Int32.lt_asymm z)]
    · rw [if_neg z]
      by_cases z2 : lo < nI 1
      · rw [if_pos z2]
      · rw [if_neg z2]
        rw [lt_T] at z z2
        omega
theorem m_errorPosition {I : Nat → Nat → Int32} {R : RT} {A : AT} {Q : Option Value → az_M → Prop} (hM : MR A I) (hQ : fnM Q I R (spErr A)) : FX12_errorPosition [.ref 354] (K0, I, R) Q := by
  have t2 := hM.2.2.2.1.2.1
  unfold spErr at hQ
  simp (disch := omega) only [s_ic, s_li, s_la, s_si, s_sa, s_inc, s_bin, s_un, s_dup, s_dup2, s_pop, s_if, s_if2, s_gi, s_gr, s_pi, s_pz, s_al, s_aa, s_as, s_az, s_ac, s_mx, s_mn, s_cpy, s_kp, s_ri, s_rz, s_rv, s_cv, s_cs, s_rem, s_div, az_gl, az_sl, az_kp, az_pop, az_fun, az_funX, az_pat, az_in, List.map, List.replicate, List.length, List.cons_append, List.nil_append, Option.toList, f_add, f_sub, f_mul, f_neg, c_eq, c_ne, c_lt, c_ge, c_gt, c_le, d_eq, d_ne, d_lt, d_ge, d_gt, d_le, vinT, nIclamp, nIadd, nImul, nIeq, nIle, nIlt, nIlt0, nIge0, nIgt0, nIle0, nIeq0, ltT, ltF, leT, leF, eqT, eqF, upS, upN, k_n, az_setI, az_setA, true_and, and_true, and_self, true_implies, false_implies, implies_true, not_true_eq_false, not_false_eq_true, Nat.add_zero, Nat.zero_add, Nat.reduceAdd, Nat.reduceSub, Nat.reduceMul, Nat.reduceLT, Nat.reduceLeDiff, Nat.reduceEqDiff, Nat.reducePow, reduceIte, ne_eq, false_and, and_false, exists_eq_left', or_true, true_or, or_false, false_or, nI1one, nI0one, bI0, bI1, bIor, bI_z, bI_1, Bool.not_eq_true, Bool.not_eq_false, Bool.true_eq_false, Bool.false_eq_true, FX12_errorPosition, PX12_errorPosition, LX12_errorPosition_31, LX12_errorPosition_13, t2, k_s_354, k_f_354_0, k_f_354_1, k_f_354_3, k_f_354_6, k_f_354_8, k_f_354_9, k_f_354_10, k_f_354_11, k_f_354_12, k_f_354_13, k_f_354_14, k_f_354_15, k_f_354_16, k_f_354_17, k_f_354_18, k_f_354_19, k_f_354_20, k_f_354_21, k_f_354_22, k_f_354_24, k_f_354_25, k_f_354_30, k_f_354_31, k_s_355, k_s_356, k_s_357, k_s_358, k_s_359, k_s_360, k_s_361, k_s_362, k_s_363, k_s_364, k_s_365, k_s_366, k_s_367, k_s_368, k_s_369, k_s_370, k_s_371, k_s_372, k_s_373, k_s_374, k_s_375, k_s_376, k_s_377, k_s_378, k_s_379]
  refine ⟨fun e => ?_, fun e => ?_⟩
  · rw [if_neg (Int32.not_lt.mpr e)] at hQ
    exact hQ _ (MR_thr hM) (by rw [upS ⟨rfl, rfl⟩]; rfl) (fun q j z => by rw [upN (by omega)])
  · rw [if_pos (Int32.not_le.mp e)] at hQ; exact fnM_t hM hQ
theorem m_undo {I : Nat → Nat → Int32} {R : RT} {A : AT} {Q : Option Value → az_M → Prop} (hA : AV A) (hM : MR A I) (hQ : fnM Q I R (spUndo A)) : FX12_undo [.ref 354] (K0, I, R) Q := by
  have hM0 := hM
  obtain ⟨S, ⟨P, n⟩, sv, T, nT, eT⟩ := A
  have t2 : I 354 4 = nI n := hM.2.1.1
  have hn : n ≤ 8 := hA.2.1.1
  unfold spUndo at hQ
  by_cases e : n = 0
  · subst e
    simp (disch := omega) only [s_ic, s_li, s_la, s_si, s_sa, s_inc, s_bin, s_un, s_dup, s_dup2, s_pop, s_if, s_if2, s_gi, s_gr, s_pi, s_pz, s_al, s_aa, s_as, s_az, s_ac, s_mx, s_mn, s_cpy, s_kp, s_ri, s_rz, s_rv, s_cv, s_cs, s_rem, s_div, az_gl, az_sl, az_kp, az_pop, az_fun, az_funX, az_pat, az_in, List.map, List.replicate, List.length, List.cons_append, List.nil_append, Option.toList, f_add, f_sub, f_mul, f_neg, c_eq, c_ne, c_lt, c_ge, c_gt, c_le, d_eq, d_ne, d_lt, d_ge, d_gt, d_le, vinT, nIclamp, nIadd, nImul, nIeq, nIle, nIlt, nIlt0, nIge0, nIgt0, nIle0, nIeq0, ltT, ltF, leT, leF, eqT, eqF, upS, upN, k_n, az_setI, az_setA, true_and, and_true, and_self, true_implies, false_implies, implies_true, not_true_eq_false, not_false_eq_true, Nat.add_zero, Nat.zero_add, Nat.reduceAdd, Nat.reduceSub, Nat.reduceMul, Nat.reduceLT, Nat.reduceLeDiff, Nat.reduceEqDiff, Nat.reducePow, reduceIte, ne_eq, false_and, and_false, exists_eq_left', or_true, true_or, or_false, false_or, nI1one, nI0one, bI0, bI1, bIor, bI_z, bI_1, Bool.not_eq_true, Bool.not_eq_false, Bool.true_eq_false, Bool.false_eq_true, FX12_undo, PX12_undo, LX12_undo_13, t2, k_s_354, k_f_354_0, k_f_354_1, k_f_354_3, k_f_354_6, k_f_354_8, k_f_354_9, k_f_354_10, k_f_354_11, k_f_354_12, k_f_354_13, k_f_354_14, k_f_354_15, k_f_354_16, k_f_354_17, k_f_354_18, k_f_354_19, k_f_354_20, k_f_354_21, k_f_354_22, k_f_354_24, k_f_354_25, k_f_354_30, k_f_354_31, k_s_355, k_s_356, k_s_357, k_s_358, k_s_359, k_s_360, k_s_361, k_s_362, k_s_363, k_s_364, k_s_365, k_s_366, k_s_367, k_s_368, k_s_369, k_s_370, k_s_371, k_s_372, k_s_373, k_s_374, k_s_375, k_s_376, k_s_377, k_s_378, k_s_379, vu_n, vu_na, vu_ns, up_na]
    exact fnM_t hM hQ
  · have e1 : 1 ≤ n := by omega
    have hle : 235 * (n - 1) ≤ 1645 := by omega
    rw [if_neg e] at hQ
    simp (disch := omega) only [s_ic, s_li, s_la, s_si, s_sa, s_inc, s_bin, s_un, s_dup, s_dup2, s_pop, s_if, s_if2, s_gi, s_gr, s_pi, s_pz, s_al, s_aa, s_as, s_az, s_ac, s_mx, s_mn, s_cpy, s_kp, s_ri, s_rz, s_rv, s_cv, s_cs, s_rem, s_div, az_gl, az_sl, az_kp, az_pop, az_fun, az_funX, az_pat, az_in, List.map, List.replicate, List.length, List.cons_append, List.nil_append, Option.toList, f_add, f_sub, f_mul, f_neg, c_eq, c_ne, c_lt, c_ge, c_gt, c_le, d_eq, d_ne, d_lt, d_ge, d_gt, d_le, vinT, nIclamp, nIadd, nImul, nIeq, nIle, nIlt, nIlt0, nIge0, nIgt0, nIle0, nIeq0, ltT, ltF, leT, leF, eqT, eqF, upS, upN, k_n, az_setI, az_setA, true_and, and_true, and_self, true_implies, false_implies, implies_true, not_true_eq_false, not_false_eq_true, Nat.add_zero, Nat.zero_add, Nat.reduceAdd, Nat.reduceSub, Nat.reduceMul, Nat.reduceLT, Nat.reduceLeDiff, Nat.reduceEqDiff, Nat.reducePow, reduceIte, ne_eq, false_and, and_false, exists_eq_left', or_true, true_or, or_false, false_or, nI1one, nI0one, bI0, bI1, bIor, bI_z, bI_1, Bool.not_eq_true, Bool.not_eq_false, Bool.true_eq_false, Bool.false_eq_true, FX12_undo, PX12_undo, LX12_undo_13, t2, e, nIsub, k_s_354, k_f_354_0, k_f_354_1, k_f_354_3, k_f_354_6, k_f_354_8, k_f_354_9, k_f_354_10, k_f_354_11, k_f_354_12, k_f_354_13, k_f_354_14, k_f_354_15, k_f_354_16, k_f_354_17, k_f_354_18, k_f_354_19, k_f_354_20, k_f_354_21, k_f_354_22, k_f_354_24, k_f_354_25, k_f_354_30, k_f_354_31, k_s_355, k_s_356, k_s_357, k_s_358, k_s_359, k_s_360, k_s_361, k_s_362, k_s_363, k_s_364, k_s_365, k_s_366, k_s_367, k_s_368, k_s_369, k_s_370, k_s_371, k_s_372, k_s_373, k_s_374, k_s_375, k_s_376, k_s_377, k_s_378, k_s_379, vu_n, vu_na, vu_ns, up_na]
    obtain ⟨hS, ⟨h1, h2⟩, hsv, ⟨t1, t3, t4⟩, -⟩ := hM
    have hv0 := hA.2.1.2 0 (by show 0 < n; omega)
    refine hQ _ ⟨?_, ⟨?_, fun i hi => ?_⟩, ⟨?_, fun V hVV => ?_⟩, ⟨?_, ?_, fun j hj => ?_⟩, false, ?_, fun z => absurd z (by decide)⟩ ?_ (fun q j z => ?_)
    · rw [up_na (by omega), vu_ns]
      refine CM_congr hv0.2.2.2.1 hv0.2.2.2.2.1 (h2 0 (by show 0 < n; omega)) (fun j hj => ?_)
      unfold va_cpy
      rw [if_pos (by omega)]
      show I 357 _ = I 357 (235 * (n - 1 - 0) + j)
      first | rfl | (congr 1; omega)
    · rw [upN (by omega), vu_n (by omega), upS ⟨rfl, rfl⟩]; rfl
    · have hi' : i < n - 1 := hi
      have hv := hA.2.1.2 (i + 1) (by show i + 1 < n; omega)
      refine CM_congr hv.2.2.2.1 hv.2.2.2.2.1 (h2 (i + 1) (by show i + 1 < n; omega)) (fun j hj => ?_)
      show az_up _ _ _ _ 357 (235 * (n - 1 - 1 - i) + j) = I 357 (235 * (n - 1 - (i + 1)) + j)
      rw [upN (by omega), vu_n (by omega), upN (by omega), upN (by omega)]
      congr 2; omega
    · rw [upN (by omega), vu_n (by omega), upN (by omega), upN (by omega)]; exact hsv.1
    · rw [up_na (by omega), vu_na (by omega), up_na (by omega), up_na (by omega)]; exact hsv.2 V hVV
    · rw [upN (by omega), vu_n (by omega), upN (by omega), upN (by omega)]; exact t1
    · rw [upN (by omega), vu_n (by omega), upN (by omega), upN (by omega)]; exact t3
    · rw [upN (by omega), vu_n (by omega), upN (by omega), upN (by omega)]; exact t4 j hj
    · rw [upS ⟨rfl, rfl⟩]; rfl
    · rw [upN (by omega), vu_n (by omega), upN (by omega), upS ⟨rfl, rfl⟩]; rfl
    · rw [upN (by omega), vu_n (by omega), upN (by omega), upN (by omega)]
theorem m_snapshot {I : Nat → Nat → Int32} {R : RT} {A : AT} {Q : Option Value → az_M → Prop} (hA : AV A) (hM : MR A I) (hQ : fnM Q I R (spSnap A)) : FX12_snapshot [.ref 354] (K0, I, R) Q := by
  have hV := hA.1
  simp (disch := omega) only [s_ic, s_li, s_la, s_si, s_sa, s_inc, s_bin, s_un, s_dup, s_dup2, s_pop, s_if, s_if2, s_gi, s_gr, s_pi, s_pz, s_al, s_aa, s_as, s_az, s_ac, s_mx, s_mn, s_cpy, s_kp, s_ri, s_rz, s_rv, s_cv, s_cs, s_rem, s_div, az_gl, az_sl, az_kp, az_pop, az_fun, az_funX, az_pat, az_in, List.map, List.replicate, List.length, List.cons_append, List.nil_append, Option.toList, f_add, f_sub, f_mul, f_neg, c_eq, c_ne, c_lt, c_ge, c_gt, c_le, d_eq, d_ne, d_lt, d_ge, d_gt, d_le, vinT, nIclamp, nIadd, nImul, nIeq, nIle, nIlt, nIlt0, nIge0, nIgt0, nIle0, nIeq0, ltT, ltF, leT, leF, eqT, eqF, upS, upN, k_n, az_setI, az_setA, true_and, and_true, and_self, true_implies, false_implies, implies_true, not_true_eq_false, not_false_eq_true, Nat.add_zero, Nat.zero_add, Nat.reduceAdd, Nat.reduceSub, Nat.reduceMul, Nat.reduceLT, Nat.reduceLeDiff, Nat.reduceEqDiff, Nat.reducePow, reduceIte, ne_eq, false_and, and_false, exists_eq_left', or_true, true_or, or_false, false_or, nI1one, nI0one, bI0, bI1, bIor, bI_z, bI_1, Bool.not_eq_true, Bool.not_eq_false, Bool.true_eq_false, Bool.false_eq_true, FX12_snapshot, PX12_snapshot, hM.1.2.2.1, k_s_354, k_f_354_0, k_f_354_1, k_f_354_3, k_f_354_6, k_f_354_8, k_f_354_9, k_f_354_10, k_f_354_11, k_f_354_12, k_f_354_13, k_f_354_14, k_f_354_15, k_f_354_16, k_f_354_17, k_f_354_18, k_f_354_19, k_f_354_20, k_f_354_21, k_f_354_22, k_f_354_24, k_f_354_25, k_f_354_30, k_f_354_31, k_s_355, k_s_356, k_s_357, k_s_358, k_s_359, k_s_360, k_s_361, k_s_362, k_s_363, k_s_364, k_s_365, k_s_366, k_s_367, k_s_368, k_s_369, k_s_370, k_s_371, k_s_372, k_s_373, k_s_374, k_s_375, k_s_376, k_s_377, k_s_378, k_s_379, vu_n, vu_na, vu_ns, up_na]
  obtain ⟨hS, ⟨h1, h2⟩, hsv, ⟨t1, t3, t4⟩, kn, k1, k2⟩ := MR_thr (x := nI 0) hM
  refine hQ _ ⟨?_, ⟨?_, fun i hi => ?_⟩, ⟨?_, fun V hVV => ?_⟩, ⟨?_, ?_, fun j hj => ?_⟩, kn, ?_, fun z => ?_⟩ ?_ (fun q j z => ?_)
  · rw [up_na (by omega), vu_na (by omega)]; exact hS
  · rw [upN (by omega), vu_n (by omega)]; exact h1
  · rw [up_na (show 357 ≠ 354 by omega), vu_na (show 357 ≠ 356 by omega)]; exact h2 i hi
  · rw [upS ⟨rfl, rfl⟩]; rfl
  · cases hVV
    rw [up_na (by omega), vu_ns]
    refine CM_congr hV.2.2.2.1 hV.2.2.2.2.1 hM.1 (fun j hj => ?_)
    unfold va_cpy
    rw [if_pos (by omega)]
    first | rfl | (congr 1; omega)
  · rw [upN (by omega), vu_n (by omega)]; exact t1
  · rw [upN (by omega), vu_n (by omega)]; exact t3
  · rw [upN (by omega), vu_n (by omega)]; exact t4 j hj
  · rw [upN (by omega), vu_n (by omega)]; exact k1
  · exact OutM_frame hV (k2 z) (by rw [upN (by omega), vu_n (by omega)]) (fun q j _ _ _ => by rw [upN (by omega), vu_n (by omega)])
  · rw [upN (by omega), vu_n (by omega), upS ⟨rfl, rfl⟩]; rfl
  · rw [upN (by omega), vu_n (by omega), upN (by omega)]
theorem m_restore {I : Nat → Nat → Int32} {R : RT} {A : AT} {Q : Option Value → az_M → Prop} (hA : AV A) (hM : MR A I) (hQ : fnM Q I R (spRest A)) : FX12_restore [.ref 354] (K0, I, R) Q := by
  have hM0 := hM
  obtain ⟨S, P, sv, T⟩ := A
  have s1 : I 354 2 = bI sv.isSome := hM.2.2.1.1
  unfold spRest at hQ
  simp (disch := omega) only [s_ic, s_li, s_la, s_si, s_sa, s_inc, s_bin, s_un, s_dup, s_dup2, s_pop, s_if, s_if2, s_gi, s_gr, s_pi, s_pz, s_al, s_aa, s_as, s_az, s_ac, s_mx, s_mn, s_cpy, s_kp, s_ri, s_rz, s_rv, s_cv, s_cs, s_rem, s_div, az_gl, az_sl, az_kp, az_pop, az_fun, az_funX, az_pat, az_in, List.map, List.replicate, List.length, List.cons_append, List.nil_append, Option.toList, f_add, f_sub, f_mul, f_neg, c_eq, c_ne, c_lt, c_ge, c_gt, c_le, d_eq, d_ne, d_lt, d_ge, d_gt, d_le, vinT, nIclamp, nIadd, nImul, nIeq, nIle, nIlt, nIlt0, nIge0, nIgt0, nIle0, nIeq0, ltT, ltF, leT, leF, eqT, eqF, upS, upN, k_n, az_setI, az_setA, true_and, and_true, and_self, true_implies, false_implies, implies_true, not_true_eq_false, not_false_eq_true, Nat.add_zero, Nat.zero_add, Nat.reduceAdd, Nat.reduceSub, Nat.reduceMul, Nat.reduceLT, Nat.reduceLeDiff, Nat.reduceEqDiff, Nat.reducePow, reduceIte, ne_eq, false_and, and_false, exists_eq_left', or_true, true_or, or_false, false_or, nI1one, nI0one, bI0, bI1, bIor, bI_z, bI_1, Bool.not_eq_true, Bool.not_eq_false, Bool.true_eq_false, Bool.false_eq_true, FX12_restore, PX12_restore, LX12_restore_13, s1, k_s_354, k_f_354_0, k_f_354_1, k_f_354_3, k_f_354_6, k_f_354_8, k_f_354_9, k_f_354_10, k_f_354_11, k_f_354_12, k_f_354_13, k_f_354_14, k_f_354_15, k_f_354_16, k_f_354_17, k_f_354_18, k_f_354_19, k_f_354_20, k_f_354_21, k_f_354_22, k_f_354_24, k_f_354_25, k_f_354_30, k_f_354_31, k_s_355, k_s_356, k_s_357, k_s_358, k_s_359, k_s_360, k_s_361, k_s_362, k_s_363, k_s_364, k_s_365, k_s_366, k_s_367, k_s_368, k_s_369, k_s_370, k_s_371, k_s_372, k_s_373, k_s_374, k_s_375, k_s_376, k_s_377, k_s_378, k_s_379, vu_n, vu_na, vu_ns, up_na]
  cases sv with
  | none => exact ⟨fun _ => fnM_t hM hQ, fun z => absurd z (by simp)⟩
  | some V =>
    refine ⟨fun z => absurd z (by simp), fun _ => ?_⟩
    have hV2 := hA.2.2.1 V rfl
    obtain ⟨hS, ⟨h1, h2⟩, hsv, ⟨t1, t3, t4⟩, -⟩ := hM
    have hS2 : CM V (va_cpy (I 356) (I 355) 0 0 235) := by
      refine CM_congr hV2.2.2.2.1 hV2.2.2.2.2.1 (hsv.2 V rfl) (fun j hj => ?_)
      unfold va_cpy
      rw [if_pos (by omega)]
      first | rfl | (congr 1; omega)
    rw [hS2.2.2.1]
    refine hQ _ ⟨?_, ⟨?_, fun i hi => absurd hi (Nat.not_lt_zero _)⟩, ⟨?_, fun V' hVV => ?_⟩, ⟨?_, ?_, fun j hj => ?_⟩, false, ?_, fun z => absurd z (by decide)⟩ ?_ (fun q j z => ?_)
    · rw [up_na (by omega), up_na (by omega), vu_ns]; exact hS2
    · rw [upN (by omega), upS ⟨rfl, rfl⟩]; rfl
    · rw [upN (by omega), upN (by omega), vu_n (by omega), upN (by omega)]; exact hsv.1
    · rw [up_na (by omega), up_na (by omega), vu_na (by omega), up_na (by omega)]; exact hsv.2 V' hVV
    · rw [upN (by omega), upN (by omega), vu_n (by omega), upN (by omega)]; exact t1
    · rw [upN (by omega), upN (by omega), vu_n (by omega), upN (by omega)]; exact t3
    · rw [upN (by omega), upN (by omega), vu_n (by omega), upN (by omega)]; exact t4 j hj
    · rw [upS ⟨rfl, rfl⟩]; rfl
    · rw [upN (by omega), upN (by omega), vu_n (by omega), upS ⟨rfl, rfl⟩]; rfl
    · rw [upN (by omega), upN (by omega), vu_n (by omega), upN (by omega)]
theorem m_append {I : Nat → Nat → Int32} {R : RT} {A : AT} {c : Int32} {Q : Option Value → az_M → Prop} (hA : AV A) (hM : MR A I) (hQ : fnM Q I R (spApp A c)) : FX12_append [.ref 354, .int c] (K0, I, R) Q := by
  have hV := hA.1
  have t1 := hM.2.2.2.1.1
  have hn := hA.2.2.2.1
  unfold spApp at hQ
  simp (disch := omega) only [s_ic, s_li, s_la, s_si, s_sa, s_inc, s_bin, s_un, s_dup, s_dup2, s_pop, s_if, s_if2, s_gi, s_gr, s_pi, s_pz, s_al, s_aa, s_as, s_az, s_ac, s_mx, s_mn, s_cpy, s_kp, s_ri, s_rz, s_rv, s_cv, s_cs, s_rem, s_div, az_gl, az_sl, az_kp, az_pop, az_fun, az_funX, az_pat, az_in, List.map, List.replicate, List.length, List.cons_append, List.nil_append, Option.toList, f_add, f_sub, f_mul, f_neg, c_eq, c_ne, c_lt, c_ge, c_gt, c_le, d_eq, d_ne, d_lt, d_ge, d_gt, d_le, vinT, nIclamp, nIadd, nImul, nIeq, nIle, nIlt, nIlt0, nIge0, nIgt0, nIle0, nIeq0, ltT, ltF, leT, leF, eqT, eqF, upS, upN, k_n, az_setI, az_setA, true_and, and_true, and_self, true_implies, false_implies, implies_true, not_true_eq_false, not_false_eq_true, Nat.add_zero, Nat.zero_add, Nat.reduceAdd, Nat.reduceSub, Nat.reduceMul, Nat.reduceLT, Nat.reduceLeDiff, Nat.reduceEqDiff, Nat.reducePow, reduceIte, ne_eq, false_and, and_false, exists_eq_left', or_true, true_or, or_false, false_or, nI1one, nI0one, bI0, bI1, bIor, bI_z, bI_1, Bool.not_eq_true, Bool.not_eq_false, Bool.true_eq_false, Bool.false_eq_true, FX12_append, PX12_append, LX12_append_30, m_in, t1, k_s_354, k_f_354_0, k_f_354_1, k_f_354_3, k_f_354_6, k_f_354_8, k_f_354_9, k_f_354_10, k_f_354_11, k_f_354_12, k_f_354_13, k_f_354_14, k_f_354_15, k_f_354_16, k_f_354_17, k_f_354_18, k_f_354_19, k_f_354_20, k_f_354_21, k_f_354_22, k_f_354_24, k_f_354_25, k_f_354_30, k_f_354_31, k_s_355, k_s_356, k_s_357, k_s_358, k_s_359, k_s_360, k_s_361, k_s_362, k_s_363, k_s_364, k_s_365, k_s_366, k_s_367, k_s_368, k_s_369, k_s_370, k_s_371, k_s_372, k_s_373, k_s_374, k_s_375, k_s_376, k_s_377, k_s_378, k_s_379]
  refine ⟨fun e1 => ⟨fun e2 => ?_, fun e2 => ?_⟩, fun e1 => ?_⟩
  · rw [if_neg (by rw [e1]; simp), if_neg (by omega)] at hQ
    obtain ⟨k, q1, q2, rfl⟩ := inW_t (by omega) (by omega) e1
    unfold iN at hQ
    rw [nI_clamp (by omega)] at hQ
    refine ⟨vp_in_nI (by omega) (by omega), nar_c k (by omega), ?_⟩
    obtain ⟨hS, ⟨h1, h2⟩, hsv, ⟨t1, t3, t4⟩, kn, k1, k2⟩ := MR_thr (x := nI 0) hM
    refine hQ _ ⟨?_, ⟨?_, fun i hi => ?_⟩, ⟨?_, fun V hVV => ?_⟩, ⟨?_, ?_, fun j hj => ?_⟩, kn, ?_, fun z => ?_⟩ ?_ (fun q j z => ?_)
    · rw [up_na (by omega), up_na (by omega)]; exact hS
    · rw [upN (by omega), upN (by omega)]; exact h1
    · rw [up_na (show 357 ≠ 354 by omega), up_na (show 357 ≠ 375 by omega)]; exact h2 i hi
    · rw [upN (by omega), upN (by omega)]; exact hsv.1
    · rw [up_na (by omega), up_na (by omega)]; exact hsv.2 V hVV
    · rw [upS ⟨rfl, rfl⟩]; rfl
    · rw [upN (by omega), upN (by omega)]; exact t3
    · have hj' : j < A.2.2.2.2.1 + 1 := hj
      show _ = nI (if j = A.2.2.2.2.1 then k else A.2.2.2.1 j)
      by_cases e : j = A.2.2.2.2.1
      · rw [if_pos e, upN (by omega), upS ⟨rfl, e⟩]
      · rw [if_neg e, upN (by omega), upN (by omega)]; exact t4 j (by omega)
    · rw [upN (by omega), upN (by omega)]; exact k1
    · exact OutM_frame hV (k2 z) (by rw [upN (by omega), upN (by omega)]) (fun q j _ _ _ => by rw [upN (by omega), upN (by omega)])
    · rw [upN (by omega), upN (by omega), upS ⟨rfl, rfl⟩]; rfl
    · rw [upN (by omega), upN (by omega), upN (by omega)]
  · rw [if_neg (by rw [e1]; simp), if_pos (by omega)] at hQ; exact fnM_t hM hQ
  · rw [if_pos e1] at hQ; exact fnM_t hM hQ
theorem m_removeOutage {I : Nat → Nat → Int32} {R : RT} {A : AT} {x : Int32} {Q : Option Value → az_M → Prop} (hA : AV A) (hM : MR A I) (hQ : fnM Q I R (spRemO A x)) : FX12_removeOutage [.ref 354, .int x] (K0, I, R) Q := by
  have hV := hA.1
  have hS := hM.1
  have hOO := hV.2.2.2.2.1
  unfold spRemO at hQ
  simp (disch := omega) only [s_ic, s_li, s_la, s_si, s_sa, s_inc, s_bin, s_un, s_dup, s_dup2, s_pop, s_if, s_if2, s_gi, s_gr, s_pi, s_pz, s_al, s_aa, s_as, s_az, s_ac, s_mx, s_mn, s_cpy, s_kp, s_ri, s_rz, s_rv, s_cv, s_cs, s_rem, s_div, az_gl, az_sl, az_kp, az_pop, az_fun, az_funX, az_pat, az_in, List.map, List.replicate, List.length, List.cons_append, List.nil_append, Option.toList, f_add, f_sub, f_mul, f_neg, c_eq, c_ne, c_lt, c_ge, c_gt, c_le, d_eq, d_ne, d_lt, d_ge, d_gt, d_le, vinT, nIclamp, nIadd, nImul, nIeq, nIle, nIlt, nIlt0, nIge0, nIgt0, nIle0, nIeq0, ltT, ltF, leT, leF, eqT, eqF, upS, upN, k_n, az_setI, az_setA, true_and, and_true, and_self, true_implies, false_implies, implies_true, not_true_eq_false, not_false_eq_true, Nat.add_zero, Nat.zero_add, Nat.reduceAdd, Nat.reduceSub, Nat.reduceMul, Nat.reduceLT, Nat.reduceLeDiff, Nat.reduceEqDiff, Nat.reducePow, reduceIte, ne_eq, false_and, and_false, exists_eq_left', or_true, true_or, or_false, false_or, nI1one, nI0one, bI0, bI1, bIor, bI_z, bI_1, Bool.not_eq_true, Bool.not_eq_false, Bool.true_eq_false, Bool.false_eq_true, FX12_removeOutage, PX12_removeOutage, LX12_removeOutage_14, m_isOutage hS, k_s_354, k_f_354_0, k_f_354_1, k_f_354_3, k_f_354_6, k_f_354_8, k_f_354_9, k_f_354_10, k_f_354_11, k_f_354_12, k_f_354_13, k_f_354_14, k_f_354_15, k_f_354_16, k_f_354_17, k_f_354_18, k_f_354_19, k_f_354_20, k_f_354_21, k_f_354_22, k_f_354_24, k_f_354_25, k_f_354_30, k_f_354_31, k_s_355, k_s_356, k_s_357, k_s_358, k_s_359, k_s_360, k_s_361, k_s_362, k_s_363, k_s_364, k_s_365, k_s_366, k_s_367, k_s_368, k_s_369, k_s_370, k_s_371, k_s_372, k_s_373, k_s_374, k_s_375, k_s_376, k_s_377, k_s_378, k_s_379]
  refine ⟨fun e => ?_, fun e => ?_⟩
  · rw [if_pos e] at hQ; exact fnM_t hM hQ
  · rw [if_neg (by rw [e]; simp)] at hQ
    obtain ⟨o, ho, rfl⟩ := isB_t (by omega) e
    unfold iN at hQ
    rw [nI_clamp (by omega)] at hQ
    refine m_chg hA hM hQ (fun I1 hS1 k => ?_)
    simp (disch := omega) only [s_ic, s_li, s_la, s_si, s_sa, s_inc, s_bin, s_un, s_dup, s_dup2, s_pop, s_if, s_if2, s_gi, s_gr, s_pi, s_pz, s_al, s_aa, s_as, s_az, s_ac, s_mx, s_mn, s_cpy, s_kp, s_ri, s_rz, s_rv, s_cv, s_cs, s_rem, s_div, az_gl, az_sl, az_kp, az_pop, az_fun, az_funX, az_pat, az_in, List.map, List.replicate, List.length, List.cons_append, List.nil_append, Option.toList, f_add, f_sub, f_mul, f_neg, c_eq, c_ne, c_lt, c_ge, c_gt, c_le, d_eq, d_ne, d_lt, d_ge, d_gt, d_le, vinT, nIclamp, nIadd, nImul, nIeq, nIle, nIlt, nIlt0, nIge0, nIgt0, nIle0, nIeq0, ltT, ltF, leT, leF, eqT, eqF, upS, upN, k_n, az_setI, az_setA, true_and, and_true, and_self, true_implies, false_implies, implies_true, not_true_eq_false, not_false_eq_true, Nat.add_zero, Nat.zero_add, Nat.reduceAdd, Nat.reduceSub, Nat.reduceMul, Nat.reduceLT, Nat.reduceLeDiff, Nat.reduceEqDiff, Nat.reducePow, reduceIte, ne_eq, false_and, and_false, exists_eq_left', or_true, true_or, or_false, false_or, nI1one, nI0one, bI0, bI1, bIor, bI_z, bI_1, Bool.not_eq_true, Bool.not_eq_false, Bool.true_eq_false, Bool.false_eq_true, hS1.2.2.2.1, nIsub, k_s_354, k_f_354_0, k_f_354_1, k_f_354_3, k_f_354_6, k_f_354_8, k_f_354_9, k_f_354_10, k_f_354_11, k_f_354_12, k_f_354_13, k_f_354_14, k_f_354_15, k_f_354_16, k_f_354_17, k_f_354_18, k_f_354_19, k_f_354_20, k_f_354_21, k_f_354_22, k_f_354_24, k_f_354_25, k_f_354_30, k_f_354_31, k_s_355, k_s_356, k_s_357, k_s_358, k_s_359, k_s_360, k_s_361, k_s_362, k_s_363, k_s_364, k_s_365, k_s_366, k_s_367, k_s_368, k_s_369, k_s_370, k_s_371, k_s_372, k_s_373, k_s_374, k_s_375, k_s_376, k_s_377, k_s_378, k_s_379, vu_n, vu_na, vu_ns, up_na]
    have cpo : ∀ j, ¬ (133 + 3 * o ≤ j ∧ j < 133 + 3 * o + 3 * (pO A.1 - 1 - o)) → va_cpy (az_up I1 355 3 (nI (pO A.1 - 1)) 355) (az_up I1 355 3 (nI (pO A.1 - 1)) 355) (133 + 3 * o + 3) (133 + 3 * o) (3 * (pO A.1 - 1 - o)) j = az_up I1 355 3 (nI (pO A.1 - 1)) 355 j := by
      intro j z
      unfold va_cpy
      rw [if_neg z]
    have cps : ∀ j, (133 + 3 * o ≤ j ∧ j < 133 + 3 * o + 3 * (pO A.1 - 1 - o)) → va_cpy (az_up I1 355 3 (nI (pO A.1 - 1)) 355) (az_up I1 355 3 (nI (pO A.1 - 1)) 355) (133 + 3 * o + 3) (133 + 3 * o) (3 * (pO A.1 - 1 - o)) j = I1 355 (j + 3) := by
      intro j z
      unfold va_cpy
      rw [if_pos z, upN (by omega)]
      congr 1; omega
    rw [cpo 3 (by omega), upS ⟨rfl, rfl⟩]
    refine k _ ?_ (fun q j z => by rw [vu_n z, upN (by omega)])
    rw [vu_ns]
    obtain ⟨r1, r2, r3, r4, r5, r6, r7, r8, r9, r10, r11, r12, r13, r14, r15⟩ := hS1
    have hU := hV.2.2.2.1
    refine ⟨?_, ?_, ?_, ?_, ?_, ?_, ?_, ⟨?_, ?_⟩, ?_, ?_, ?_, ?_, ?_, ?_, ?_⟩
    · rw [cpo _ (by omega), upN (by omega)]; exact r1
    · rw [cpo _ (by omega), upN (by omega)]; exact r2
    · rw [cpo _ (by omega), upN (by omega)]; exact r3
    · rw [cpo _ (by omega), upS ⟨rfl, rfl⟩]; rfl
    · rw [cpo _ (by omega), upN (by omega)]; exact r5
    · intro c h hc hh; rw [cpo _ (by omega), upN (by omega)]; exact r6 c h hc hh
    · intro h hh; rw [cpo _ (by omega), upN (by omega)]; exact r7 h hh
    · rw [cpo _ (by omega), upN (by omega)]; exact r8.1
    · rw [cpo _ (by omega), upN (by omega)]; exact r8.2
    · intro c q1 q2; rw [cpo _ (by omega), upN (by omega)]; exact r9 c q1 q2
    · intro c q1 q2; rw [cpo _ (by omega), upN (by omega)]; exact r10 c q1 q2
    · intro r hr
      have hr' : r < pO A.1 - 1 := hr
      show _ = nI (if o ≤ r then pX A.1 (r + 1) else pX A.1 r).1
      by_cases e : o ≤ r
      · rw [if_pos e, cps _ (by omega), ← r11 (r + 1) (by omega)]; first | rfl | (congr 1; omega)
      · rw [if_neg e, cpo _ (by omega), upN (by omega)]; exact r11 r (by omega)
    · intro r hr
      have hr' : r < pO A.1 - 1 := hr
      show _ = nI (if o ≤ r then pX A.1 (r + 1) else pX A.1 r).2.1
      by_cases e : o ≤ r
      · rw [if_pos e, cps _ (by omega), ← r12 (r + 1) (by omega)]; first | rfl | (congr 1; omega)
      · rw [if_neg e, cpo _ (by omega), upN (by omega)]; exact r12 r (by omega)
    · intro r hr
      have hr' : r < pO A.1 - 1 := hr
      show _ = nI (if o ≤ r then pX A.1 (r + 1) else pX A.1 r).2.2
      by_cases e : o ≤ r
      · rw [if_pos e, cps _ (by omega), ← r13 (r + 1) (by omega)]; first | rfl | (congr 1; omega)
      · rw [if_neg e, cpo _ (by omega), upN (by omega)]; exact r13 r (by omega)
    · intro u k hu hk hk8; have hu' : u < pU A.1 := hu; rw [cpo _ (by omega), upN (by omega)]; exact r14 u k hu' hk hk8
    · intro u hu; have hu' : u < pU A.1 := hu; rw [cpo _ (by omega), upN (by omega)]; exact r15 u hu'
