set_option maxRecDepth 100000
set_option maxHeartbeats 2000000
/-! the model's start over a skeleton that is being made -/
theorem m_startK {K : KT} (n4 : 354 < K.1) (n5 : 355 < K.1) (s4 : K.2.1 354 = (13, 0)) (f4 : K.2.2 354 0 = some 355) (s5 : K.2.1 355 = (20, 235)) {I : Nat → Nat → Int32} {R : RT} {H B : Nat} {Q : Option Value → az_M → Prop} (hQ : ∀ I', CM (S0 H B) (I' 355) → I' 354 4 = nI 0 → I' 354 7 = bI false → (∀ q j, q ≠ 355 → ¬ (q = 354 ∧ (j = 4 ∨ j = 7)) → I' q j = I q j) → Q none (K, I', R)) : FX12_start [.ref 354, .int (nI H), .int (nI B)] (K, I, R) Q := by
  simp (disch := omega) only [s_ic, s_li, s_la, s_si, s_sa, s_inc, s_bin, s_un, s_dup, s_dup2, s_pop, s_if, s_if2, s_gi, s_gr, s_pi, s_pz, s_al, s_aa, s_as, s_az, s_ac, s_mx, s_mn, s_cpy, s_kp, s_ri, s_rz, s_rv, s_cv, s_cs, s_rem, s_div, az_gl, az_sl, az_kp, az_pop, az_fun, az_funX, az_pat, az_in, List.map, List.replicate, List.length, List.cons_append, List.nil_append, Option.toList, f_add, f_sub, f_mul, f_neg, c_eq, c_ne, c_lt, c_ge, c_gt, c_le, d_eq, d_ne, d_lt, d_ge, d_gt, d_le, vinT, nIclamp, nIadd, nImul, nIeq, nIle, nIlt, nIlt0, nIge0, nIgt0, nIle0, nIeq0, ltT, ltF, leT, leF, eqT, eqF, upS, upN, k_n, az_setI, az_setA, true_and, and_true, and_self, true_implies, false_implies, implies_true, not_true_eq_false, not_false_eq_true, Nat.add_zero, Nat.zero_add, Nat.reduceAdd, Nat.reduceSub, Nat.reduceMul, Nat.reduceLT, Nat.reduceLeDiff, Nat.reduceEqDiff, Nat.reducePow, reduceIte, ne_eq, false_and, and_false, exists_eq_left', or_true, true_or, or_false, false_or, nI1one, nI0one, bI0, bI1, bIor, bI_z, bI_1, Bool.not_eq_true, Bool.not_eq_false, Bool.true_eq_false, Bool.false_eq_true, FX12_start, PX12_start, LX12_start_2, n4, n5, s4, f4, s5]
  refine lp_mem (q := (0, 0)) 235 (fun i => [some (.ref 354), some (.int (nI H)), some (.int (nI B)), some (.int (nI i))]) (fun i I1 => (∀ k, k < i → I1 355 k = nI 0) ∧ ∀ q j, q ≠ 355 → I1 q j = I q j) ⟨fun k z => absurd z (Nat.not_lt_zero _), fun _ _ _ => rfl⟩ ?_ ?_
  · intro i hi I1 ⟨g1, g2⟩ Z hZ
    have hi2 : ¬ 235 ≤ i := by omega
    simp (disch := omega) only [s_ic, s_li, s_la, s_si, s_sa, s_inc, s_bin, s_un, s_dup, s_dup2, s_pop, s_if, s_if2, s_gi, s_gr, s_pi, s_pz, s_al, s_aa, s_as, s_az, s_ac, s_mx, s_mn, s_cpy, s_kp, s_ri, s_rz, s_rv, s_cv, s_cs, s_rem, s_div, az_gl, az_sl, az_kp, az_pop, az_fun, az_funX, az_pat, az_in, List.map, List.replicate, List.length, List.cons_append, List.nil_append, Option.toList, f_add, f_sub, f_mul, f_neg, c_eq, c_ne, c_lt, c_ge, c_gt, c_le, d_eq, d_ne, d_lt, d_ge, d_gt, d_le, vinT, nIclamp, nIadd, nImul, nIeq, nIle, nIlt, nIlt0, nIge0, nIgt0, nIle0, nIeq0, ltT, ltF, leT, leF, eqT, eqF, upS, upN, k_n, az_setI, az_setA, true_and, and_true, and_self, true_implies, false_implies, implies_true, not_true_eq_false, not_false_eq_true, Nat.add_zero, Nat.zero_add, Nat.reduceAdd, Nat.reduceSub, Nat.reduceMul, Nat.reduceLT, Nat.reduceLeDiff, Nat.reduceEqDiff, Nat.reducePow, reduceIte, ne_eq, false_and, and_false, exists_eq_left', or_true, true_or, or_false, false_or, nI1one, nI0one, bI0, bI1, bIor, bI_z, bI_1, Bool.not_eq_true, Bool.not_eq_false, Bool.true_eq_false, Bool.false_eq_true, BX12_start_2, hi2, n4, n5, s4, f4, s5]
    refine hZ _ ⟨fun k hk => ?_, fun q j z => ?_⟩
    · by_cases e : k = i
      · rw [upS ⟨rfl, e⟩]
      · rw [upN (by omega)]; exact g1 k (by omega)
    · rw [upN (by omega)]; exact g2 q j z
  · intro I1 ⟨g1, g2⟩ Z
    simp (disch := omega) only [s_ic, s_li, s_la, s_si, s_sa, s_inc, s_bin, s_un, s_dup, s_dup2, s_pop, s_if, s_if2, s_gi, s_gr, s_pi, s_pz, s_al, s_aa, s_as, s_az, s_ac, s_mx, s_mn, s_cpy, s_kp, s_ri, s_rz, s_rv, s_cv, s_cs, s_rem, s_div, az_gl, az_sl, az_kp, az_pop, az_fun, az_funX, az_pat, az_in, List.map, List.replicate, List.length, List.cons_append, List.nil_append, Option.toList, f_add, f_sub, f_mul, f_neg, c_eq, c_ne, c_lt, c_ge, c_gt, c_le, d_eq, d_ne, d_lt, d_ge, d_gt, d_le, vinT, nIclamp, nIadd, nImul, nIeq, nIle, nIlt, nIlt0, nIge0, nIgt0, nIle0, nIeq0, ltT, ltF, leT, leF, eqT, eqF, upS, upN, k_n, az_setI, az_setA, true_and, and_true, and_self, true_implies, false_implies, implies_true, not_true_eq_false, not_false_eq_true, Nat.add_zero, Nat.zero_add, Nat.reduceAdd, Nat.reduceSub, Nat.reduceMul, Nat.reduceLT, Nat.reduceLeDiff, Nat.reduceEqDiff, Nat.reducePow, reduceIte, ne_eq, false_and, and_false, exists_eq_left', or_true, true_or, or_false, false_or, nI1one, nI0one, bI0, bI1, bIor, bI_z, bI_1, Bool.not_eq_true, Bool.not_eq_false, Bool.true_eq_false, Bool.false_eq_true, BX12_start_2, LX12_start_38, n4, n5, s4, f4, s5]
    refine lp_mem (q := (0, 0)) 4 (fun i => [some (.ref 354), none, none, some (.int (nI i))]) (fun i I2 => I2 355 0 = nI H ∧ I2 355 1 = nI B ∧ (∀ k, 2 ≤ k → k < 235 → k < 125 ∨ 133 ≤ k → I2 355 k = nI 0) ∧ (∀ c, c < i → I2 355 (125 + c) = nI c - nI 1 ∧ I2 355 (129 + c) = if c = 0 then nI 0 else nI 100) ∧ ∀ q j, q ≠ 355 → I2 q j = I q j) ⟨?_, ?_, fun k z1 z2 z3 => ?_, fun k z => absurd z (Nat.not_lt_zero _), fun q j z => ?_⟩ ?_ ?_
    · rw [upN (by omega), upS ⟨rfl, rfl⟩]
    · rw [upS ⟨rfl, rfl⟩]
    · rw [upN (by omega), upN (by omega)]; exact g1 k z2
    · rw [upN (by omega), upN (by omega)]; exact g2 q j z
    · intro i hi I2 ⟨k1, k2, k3, k4, k5⟩ Z2 hZ2
      have hi2 : ¬ 4 ≤ i := by omega
      have fin : ∀ v, v = (if i = 0 then nI 0 else nI 100) → Z2 [some (.ref 354), none, none, some (.int (nI (i + 1)))] [] (0, 0) (K, az_up (az_up I2 355 (125 + i) (nI i - nI 1)) 355 (129 + i) v, R) := by
        intro v hv
        refine hZ2 _ ⟨?_, ?_, fun k z1 z2 z3 => ?_, fun c hc => ?_, fun q j z => ?_⟩
        · rw [upN (by omega), upN (by omega)]; exact k1
        · rw [upN (by omega), upN (by omega)]; exact k2
        · rw [upN (by omega), upN (by omega)]; exact k3 k z1 z2 z3
        · by_cases e : c = i
          · subst e; rw [upN (by omega), upS ⟨rfl, rfl⟩, upS ⟨rfl, rfl⟩]; exact ⟨rfl, hv⟩
          · rw [upN (by omega), upN (by omega), upN (by omega), upN (by omega)]; exact k4 c (by omega)
        · rw [upN (by omega), upN (by omega)]; exact k5 q j z
      simp (disch := omega) only [s_ic, s_li, s_la, s_si, s_sa, s_inc, s_bin, s_un, s_dup, s_dup2, s_pop, s_if, s_if2, s_gi, s_gr, s_pi, s_pz, s_al, s_aa, s_as, s_az, s_ac, s_mx, s_mn, s_cpy, s_kp, s_ri, s_rz, s_rv, s_cv, s_cs, s_rem, s_div, az_gl, az_sl, az_kp, az_pop, az_fun, az_funX, az_pat, az_in, List.map, List.replicate, List.length, List.cons_append, List.nil_append, Option.toList, f_add, f_sub, f_mul, f_neg, c_eq, c_ne, c_lt, c_ge, c_gt, c_le, d_eq, d_ne, d_lt, d_ge, d_gt, d_le, vinT, nIclamp, nIadd, nImul, nIeq, nIle, nIlt, nIlt0, nIge0, nIgt0, nIle0, nIeq0, ltT, ltF, leT, leF, eqT, eqF, upS, upN, k_n, az_setI, az_setA, true_and, and_true, and_self, true_implies, false_implies, implies_true, not_true_eq_false, not_false_eq_true, Nat.add_zero, Nat.zero_add, Nat.reduceAdd, Nat.reduceSub, Nat.reduceMul, Nat.reduceLT, Nat.reduceLeDiff, Nat.reduceEqDiff, Nat.reducePow, reduceIte, ne_eq, false_and, and_false, exists_eq_left', or_true, true_or, or_false, false_or, nI1one, nI0one, bI0, bI1, bIor, bI_z, bI_1, Bool.not_eq_true, Bool.not_eq_false, Bool.true_eq_false, Bool.false_eq_true, BX12_start_38, hi2, LX12_start_74, n4, n5, s4, f4, s5]
      exact ⟨fun e => fin _ (by rw [if_neg e]), fun e => fin _ (by rw [if_pos (Classical.not_not.mp e)])⟩
    · intro I2 ⟨k1, k2, k3, k4, k5⟩ Z2
      simp (disch := omega) only [s_ic, s_li, s_la, s_si, s_sa, s_inc, s_bin, s_un, s_dup, s_dup2, s_pop, s_if, s_if2, s_gi, s_gr, s_pi, s_pz, s_al, s_aa, s_as, s_az, s_ac, s_mx, s_mn, s_cpy, s_kp, s_ri, s_rz, s_rv, s_cv, s_cs, s_rem, s_div, az_gl, az_sl, az_kp, az_pop, az_fun, az_funX, az_pat, az_in, List.map, List.replicate, List.length, List.cons_append, List.nil_append, Option.toList, f_add, f_sub, f_mul, f_neg, c_eq, c_ne, c_lt, c_ge, c_gt, c_le, d_eq, d_ne, d_lt, d_ge, d_gt, d_le, vinT, nIclamp, nIadd, nImul, nIeq, nIle, nIlt, nIlt0, nIge0, nIgt0, nIle0, nIeq0, ltT, ltF, leT, leF, eqT, eqF, upS, upN, k_n, az_setI, az_setA, true_and, and_true, and_self, true_implies, false_implies, implies_true, not_true_eq_false, not_false_eq_true, Nat.add_zero, Nat.zero_add, Nat.reduceAdd, Nat.reduceSub, Nat.reduceMul, Nat.reduceLT, Nat.reduceLeDiff, Nat.reduceEqDiff, Nat.reducePow, reduceIte, ne_eq, false_and, and_false, exists_eq_left', or_true, true_or, or_false, false_or, nI1one, nI0one, bI0, bI1, bIor, bI_z, bI_1, Bool.not_eq_true, Bool.not_eq_false, Bool.true_eq_false, Bool.false_eq_true, BX12_start_38, n4, n5, s4, f4, s5]
      refine hQ _ ?_ (by rw [upN (by omega), upS ⟨rfl, rfl⟩]) (by rw [upS ⟨rfl, rfl⟩]; rfl) (fun q j z1 z2 => by rw [upN (by omega), upN (by omega)]; exact k5 q j z1)
      refine ⟨?_, ?_, ?_, ?_, ?_, fun c h hc hh => ?_, fun h hh => ?_, ⟨?_, ?_⟩, fun c q1 q2 => ?_, fun c q1 q2 => ?_, fun o ho => absurd ho (Nat.not_lt_zero _), fun o ho => absurd ho (Nat.not_lt_zero _), fun o ho => absurd ho (Nat.not_lt_zero _), fun o k ho => absurd ho (Nat.not_lt_zero _), fun o ho => absurd ho (Nat.not_lt_zero _)⟩
      · rw [upN (by omega), upN (by omega)]; exact k1
      · rw [upN (by omega), upN (by omega)]; exact k2
      · rw [upN (by omega), upN (by omega)]; exact k3 _ (by omega) (by omega) (by omega)
      · rw [upN (by omega), upN (by omega)]; exact k3 _ (by omega) (by omega) (by omega)
      · rw [upN (by omega), upN (by omega)]; exact k3 _ (by omega) (by omega) (by omega)
      · rw [upN (by omega), upN (by omega)]; exact k3 _ (by omega) (by omega) (by omega)
      · rw [upN (by omega), upN (by omega)]; exact k3 _ (by omega) (by omega) (by omega)
      · rw [upN (by omega), upN (by omega)]; exact (k4 0 (by omega)).1
      · rw [upN (by omega), upN (by omega)]; exact (k4 0 (by omega)).2
      · rw [upN (by omega), upN (by omega), (k4 c q2).1, nIsub q1]; rfl
      · rw [upN (by omega), upN (by omega), (k4 c q2).2, if_neg (by omega)]; rfl
