set_option maxRecDepth 100000
set_option maxHeartbeats 2000000
theorem le_mn {z x y : Int32} : z ≤ mnI x y ↔ z ≤ x ∧ z ≤ y := by
  rw [le_T, le_T, le_T, mn_T]
  split <;> constructor <;> intro h
  · constructor <;> omega
  · omega
  · constructor <;> omega
  · omega
theorem le_anti {x y : Int32} (h : ∀ z : Int32, z ≤ x ↔ z ≤ y) : x = y := by
  have h1 := (h x).mp (Int32.le_refl x)
  have h2 := (h y).mpr (Int32.le_refl y)
  rw [le_T] at h1 h2
  exact Int32.toInt_inj.mp (by omega)
theorem anc_0 {S : PS} (hV : VS S) : ∀ {n a : Nat}, a < 4 → anc S n a 0 = 0
  | 0, _, _ => rfl
  | n + 1, a, h => by
    unfold anc
    split
    · rfl
    · rename_i h0
      have := (hV.2.2.2.2.2.2.2.2.2 a (by omega) h).1
      rw [if_neg (by omega), anc_0 hV (by omega)]; rfl
theorem drW_0 {S : PS} (hV : VS S) {a b : Nat} (ha : a < 4) (hb : b < 4) : drW S a b 0 = 0 := by
  unfold drW
  rw [anc_0 hV ha, anc_0 hV hb]; rfl
theorem anc_z {S : PS} {n c : Nat} : anc S n 0 c = 0 := by cases n <;> simp [anc]
theorem m_findWay {I : Nat → Nat → Int32} {R : RT} {S : PS} {a b : Nat} {Q : Option Value → az_M → Prop} (hV : VS S) (hS : CM S (I 355)) (ha : a < pB S) (hb : b < pB S)
    (hQ : ∀ I', (∀ c, c < 4 → I' 371 c = drW S a b c) → (∀ q j, q ≠ 371 → I' q j = I q j) → Q none (K0, I', R)) : FX12_findWay [.ref 354, .int (nI a), .int (nI b)] (K0, I, R) Q := by
  have hB := hV.2.1.2
  simp (disch := omega) only [s_ic, s_li, s_la, s_si, s_sa, s_inc, s_bin, s_un, s_dup, s_dup2, s_pop, s_if, s_if2, s_gi, s_gr, s_pi, s_pz, s_al, s_aa, s_as, s_az, s_ac, s_mx, s_mn, s_cpy, s_kp, s_ri, s_rz, s_rv, s_cv, s_cs, s_rem, s_div, az_gl, az_sl, az_kp, az_pop, az_fun, az_funX, az_pat, az_in, List.map, List.replicate, List.length, List.cons_append, List.nil_append, Option.toList, f_add, f_sub, f_mul, f_neg, c_eq, c_ne, c_lt, c_ge, c_gt, c_le, d_eq, d_ne, d_lt, d_ge, d_gt, d_le, vinT, nIclamp, nIadd, nImul, nIeq, nIle, nIlt, nIlt0, nIge0, nIgt0, nIle0, nIeq0, ltT, ltF, leT, leF, eqT, eqF, upS, upN, k_n, az_setI, az_setA, true_and, and_true, and_self, true_implies, false_implies, implies_true, not_true_eq_false, not_false_eq_true, Nat.add_zero, Nat.zero_add, Nat.reduceAdd, Nat.reduceSub, Nat.reduceMul, Nat.reduceLT, Nat.reduceLeDiff, Nat.reduceEqDiff, Nat.reducePow, reduceIte, ne_eq, false_and, and_false, exists_eq_left', or_true, true_or, or_false, false_or, nI1one, nI0one, bI0, bI1, bIor, bI_z, bI_1, Bool.not_eq_true, Bool.not_eq_false, Bool.true_eq_false, Bool.false_eq_true, FX12_findWay, PX12_findWay, LX12_findWay_2, k_s_354, k_f_354_0, k_f_354_1, k_f_354_3, k_f_354_6, k_f_354_8, k_f_354_9, k_f_354_10, k_f_354_11, k_f_354_12, k_f_354_13, k_f_354_14, k_f_354_15, k_f_354_16, k_f_354_17, k_f_354_18, k_f_354_19, k_f_354_20, k_f_354_21, k_f_354_22, k_f_354_24, k_f_354_25, k_f_354_30, k_f_354_31, k_s_355, k_s_356, k_s_357, k_s_358, k_s_359, k_s_360, k_s_361, k_s_362, k_s_363, k_s_364, k_s_365, k_s_366, k_s_367, k_s_368, k_s_369, k_s_370, k_s_371, k_s_372, k_s_373, k_s_374, k_s_375, k_s_376, k_s_377, k_s_378, k_s_379, vu_n, vu_na, vu_ns, up_na]
  refine lp_mem (q := (0, 0)) 4 (fun i => [some (.ref 354), some (.int (nI a)), some (.int (nI b)), some (.int (nI i))]) (fun i I1 => (∀ o, o < i → I1 371 o = nI 0) ∧ ∀ q j, q ≠ 371 → I1 q j = I q j) ⟨fun k z => absurd z (Nat.not_lt_zero _), fun _ _ _ => rfl⟩ ?_ ?_
  · intro i hi I1 ⟨g1, g2⟩ Z hZ
    have hi2 : ¬ 4 ≤ i := by omega
    simp (disch := omega) only [s_ic, s_li, s_la, s_si, s_sa, s_inc, s_bin, s_un, s_dup, s_dup2, s_pop, s_if, s_if2, s_gi, s_gr, s_pi, s_pz, s_al, s_aa, s_as, s_az, s_ac, s_mx, s_mn, s_cpy, s_kp, s_ri, s_rz, s_rv, s_cv, s_cs, s_rem, s_div, az_gl, az_sl, az_kp, az_pop, az_fun, az_funX, az_pat, az_in, List.map, List.replicate, List.length, List.cons_append, List.nil_append, Option.toList, f_add, f_sub, f_mul, f_neg, c_eq, c_ne, c_lt, c_ge, c_gt, c_le, d_eq, d_ne, d_lt, d_ge, d_gt, d_le, vinT, nIclamp, nIadd, nImul, nIeq, nIle, nIlt, nIlt0, nIge0, nIgt0, nIle0, nIeq0, ltT, ltF, leT, leF, eqT, eqF, upS, upN, k_n, az_setI, az_setA, true_and, and_true, and_self, true_implies, false_implies, implies_true, not_true_eq_false, not_false_eq_true, Nat.add_zero, Nat.zero_add, Nat.reduceAdd, Nat.reduceSub, Nat.reduceMul, Nat.reduceLT, Nat.reduceLeDiff, Nat.reduceEqDiff, Nat.reducePow, reduceIte, ne_eq, false_and, and_false, exists_eq_left', or_true, true_or, or_false, false_or, nI1one, nI0one, bI0, bI1, bIor, bI_z, bI_1, Bool.not_eq_true, Bool.not_eq_false, Bool.true_eq_false, Bool.false_eq_true, BX12_findWay_2, hi2, k_s_354, k_f_354_0, k_f_354_1, k_f_354_3, k_f_354_6, k_f_354_8, k_f_354_9, k_f_354_10, k_f_354_11, k_f_354_12, k_f_354_13, k_f_354_14, k_f_354_15, k_f_354_16, k_f_354_17, k_f_354_18, k_f_354_19, k_f_354_20, k_f_354_21, k_f_354_22, k_f_354_24, k_f_354_25, k_f_354_30, k_f_354_31, k_s_355, k_s_356, k_s_357, k_s_358, k_s_359, k_s_360, k_s_361, k_s_362, k_s_363, k_s_364, k_s_365, k_s_366, k_s_367, k_s_368, k_s_369, k_s_370, k_s_371, k_s_372, k_s_373, k_s_374, k_s_375, k_s_376, k_s_377, k_s_378, k_s_379, vu_n, vu_na, vu_ns, up_na]
    refine hZ _ ⟨fun k hk => ?_, fun q j z => ?_⟩
    · by_cases e : k = i
      · rw [upS ⟨rfl, e⟩]
      · rw [upN (by omega)]; exact g1 k (by omega)
    · rw [upN (by omega)]; exact g2 q j z
  · intro I1 ⟨g1, g2⟩ Z
    simp (disch := omega) only [s_ic, s_li, s_la, s_si, s_sa, s_inc, s_bin, s_un, s_dup, s_dup2, s_pop, s_if, s_if2, s_gi, s_gr, s_pi, s_pz, s_al, s_aa, s_as, s_az, s_ac, s_mx, s_mn, s_cpy, s_kp, s_ri, s_rz, s_rv, s_cv, s_cs, s_rem, s_div, az_gl, az_sl, az_kp, az_pop, az_fun, az_funX, az_pat, az_in, List.map, List.replicate, List.length, List.cons_append, List.nil_append, Option.toList, f_add, f_sub, f_mul, f_neg, c_eq, c_ne, c_lt, c_ge, c_gt, c_le, d_eq, d_ne, d_lt, d_ge, d_gt, d_le, vinT, nIclamp, nIadd, nImul, nIeq, nIle, nIlt, nIlt0, nIge0, nIgt0, nIle0, nIeq0, ltT, ltF, leT, leF, eqT, eqF, upS, upN, k_n, az_setI, az_setA, true_and, and_true, and_self, true_implies, false_implies, implies_true, not_true_eq_false, not_false_eq_true, Nat.add_zero, Nat.zero_add, Nat.reduceAdd, Nat.reduceSub, Nat.reduceMul, Nat.reduceLT, Nat.reduceLeDiff, Nat.reduceEqDiff, Nat.reducePow, reduceIte, ne_eq, false_and, and_false, exists_eq_left', or_true, true_or, or_false, false_or, nI1one, nI0one, bI0, bI1, bIor, bI_z, bI_1, Bool.not_eq_true, Bool.not_eq_false, Bool.true_eq_false, Bool.false_eq_true, BX12_findWay_2, LX12_findWay_22, k_s_354, k_f_354_0, k_f_354_1, k_f_354_3, k_f_354_6, k_f_354_8, k_f_354_9, k_f_354_10, k_f_354_11, k_f_354_12, k_f_354_13, k_f_354_14, k_f_354_15, k_f_354_16, k_f_354_17, k_f_354_18, k_f_354_19, k_f_354_20, k_f_354_21, k_f_354_22, k_f_354_24, k_f_354_25, k_f_354_30, k_f_354_31, k_s_355, k_s_356, k_s_357, k_s_358, k_s_359, k_s_360, k_s_361, k_s_362, k_s_363, k_s_364, k_s_365, k_s_366, k_s_367, k_s_368, k_s_369, k_s_370, k_s_371, k_s_372, k_s_373, k_s_374, k_s_375, k_s_376, k_s_377, k_s_378, k_s_379, vu_n, vu_na, vu_ns, up_na]
    refine lp_gen (fun m l I2 => ∃ a', l = [some (.ref 354), none, some (.int (nI b)), some (.int (nI a'))] ∧ a' < 4 ∧ (∀ c, c < 4 → I2 371 c + anc S 4 a' c = anc S 4 a c) ∧ (∀ q j, q ≠ 371 → I2 q j = I q j) ∧ m = a') ?_ (n := a) ⟨a, rfl, by omega, fun c hc => by rw [g1 c hc, nI_0, Int32.zero_add], g2, rfl⟩
    intro m l I2 ⟨a', hl, h1, h2, h3, h4⟩ Z2 hZ2
    subst hl
    have hS2 : CM S (I2 355) := by rw [show I2 355 = I 355 from funext (fun j => h3 _ _ (by omega))]; exact hS
    by_cases e : a' = 0
    · subst e
      simp (disch := omega) only [s_ic, s_li, s_la, s_si, s_sa, s_inc, s_bin, s_un, s_dup, s_dup2, s_pop, s_if, s_if2, s_gi, s_gr, s_pi, s_pz, s_al, s_aa, s_as, s_az, s_ac, s_mx, s_mn, s_cpy, s_kp, s_ri, s_rz, s_rv, s_cv, s_cs, s_rem, s_div, az_gl, az_sl, az_kp, az_pop, az_fun, az_funX, az_pat, az_in, List.map, List.replicate, List.length, List.cons_append, List.nil_append, Option.toList, f_add, f_sub, f_mul, f_neg, c_eq, c_ne, c_lt, c_ge, c_gt, c_le, d_eq, d_ne, d_lt, d_ge, d_gt, d_le, vinT, nIclamp, nIadd, nImul, nIeq, nIle, nIlt, nIlt0, nIge0, nIgt0, nIle0, nIeq0, ltT, ltF, leT, leF, eqT, eqF, upS, upN, k_n, az_setI, az_setA, true_and, and_true, and_self, true_implies, false_implies, implies_true, not_true_eq_false, not_false_eq_true, Nat.add_zero, Nat.zero_add, Nat.reduceAdd, Nat.reduceSub, Nat.reduceMul, Nat.reduceLT, Nat.reduceLeDiff, Nat.reduceEqDiff, Nat.reducePow, reduceIte, ne_eq, false_and, and_false, exists_eq_left', or_true, true_or, or_false, false_or, nI1one, nI0one, bI0, bI1, bIor, bI_z, bI_1, Bool.not_eq_true, Bool.not_eq_false, Bool.true_eq_false, Bool.false_eq_true, BX12_findWay_22, LX12_findWay_51, k_s_354, k_f_354_0, k_f_354_1, k_f_354_3, k_f_354_6, k_f_354_8, k_f_354_9, k_f_354_10, k_f_354_11, k_f_354_12, k_f_354_13, k_f_354_14, k_f_354_15, k_f_354_16, k_f_354_17, k_f_354_18, k_f_354_19, k_f_354_20, k_f_354_21, k_f_354_22, k_f_354_24, k_f_354_25, k_f_354_30, k_f_354_31, k_s_355, k_s_356, k_s_357, k_s_358, k_s_359, k_s_360, k_s_361, k_s_362, k_s_363, k_s_364, k_s_365, k_s_366, k_s_367, k_s_368, k_s_369, k_s_370, k_s_371, k_s_372, k_s_373, k_s_374, k_s_375, k_s_376, k_s_377, k_s_378, k_s_379, vu_n, vu_na, vu_ns, up_na]
      refine lp_gen (fun m l I3 => ∃ b', l = [some (.ref 354), none, none, some (.int (nI b'))] ∧ b' < 4 ∧ (∀ c, c < 4 → I3 371 c - anc S 4 b' c = drW S a b c) ∧ (∀ q j, q ≠ 371 → I3 q j = I q j) ∧ m = b') ?_ (n := b) ⟨b, rfl, by omega, fun c hc => by have := h2 c hc; rw [anc_z, Int32.add_zero] at this; rw [this]; rfl, h3, rfl⟩
      intro m l I3 ⟨b', hl, k1, k2, k3, k4⟩ Z3 hZ3
      subst hl
      have hS3 : CM S (I3 355) := by rw [show I3 355 = I 355 from funext (fun j => k3 _ _ (by omega))]; exact hS
      by_cases e : b' = 0
      · subst e
        simp (disch := omega) only [s_ic, s_li, s_la, s_si, s_sa, s_inc, s_bin, s_un, s_dup, s_dup2, s_pop, s_if, s_if2, s_gi, s_gr, s_pi, s_pz, s_al, s_aa, s_as, s_az, s_ac, s_mx, s_mn, s_cpy, s_kp, s_ri, s_rz, s_rv, s_cv, s_cs, s_rem, s_div, az_gl, az_sl, az_kp, az_pop, az_fun, az_funX, az_pat, az_in, List.map, List.replicate, List.length, List.cons_append, List.nil_append, Option.toList, f_add, f_sub, f_mul, f_neg, c_eq, c_ne, c_lt, c_ge, c_gt, c_le, d_eq, d_ne, d_lt, d_ge, d_gt, d_le, vinT, nIclamp, nIadd, nImul, nIeq, nIle, nIlt, nIlt0, nIge0, nIgt0, nIle0, nIeq0, ltT, ltF, leT, leF, eqT, eqF, upS, upN, k_n, az_setI, az_setA, true_and, and_true, and_self, true_implies, false_implies, implies_true, not_true_eq_false, not_false_eq_true, Nat.add_zero, Nat.zero_add, Nat.reduceAdd, Nat.reduceSub, Nat.reduceMul, Nat.reduceLT, Nat.reduceLeDiff, Nat.reduceEqDiff, Nat.reducePow, reduceIte, ne_eq, false_and, and_false, exists_eq_left', or_true, true_or, or_false, false_or, nI1one, nI0one, bI0, bI1, bIor, bI_z, bI_1, Bool.not_eq_true, Bool.not_eq_false, Bool.true_eq_false, Bool.false_eq_true, BX12_findWay_51, k_s_354, k_f_354_0, k_f_354_1, k_f_354_3, k_f_354_6, k_f_354_8, k_f_354_9, k_f_354_10, k_f_354_11, k_f_354_12, k_f_354_13, k_f_354_14, k_f_354_15, k_f_354_16, k_f_354_17, k_f_354_18, k_f_354_19, k_f_354_20, k_f_354_21, k_f_354_22, k_f_354_24, k_f_354_25, k_f_354_30, k_f_354_31, k_s_355, k_s_356, k_s_357, k_s_358, k_s_359, k_s_360, k_s_361, k_s_362, k_s_363, k_s_364, k_s_365, k_s_366, k_s_367, k_s_368, k_s_369, k_s_370, k_s_371, k_s_372, k_s_373, k_s_374, k_s_375, k_s_376, k_s_377, k_s_378, k_s_379, vu_n, vu_na, vu_ns, up_na]
        exact hQ I3 (fun c hc => by have := k2 c hc; rw [anc_z, Int32.sub_zero] at this; exact this) k3
      · have hp := (hV.2.2.2.2.2.2.2.2.2 b' (by omega) k1).1
        have r9 := hS3.2.2.2.2.2.2.2.2.1 b' (by omega) k1
        simp (disch := omega) only [s_ic, s_li, s_la, s_si, s_sa, s_inc, s_bin, s_un, s_dup, s_dup2, s_pop, s_if, s_if2, s_gi, s_gr, s_pi, s_pz, s_al, s_aa, s_as, s_az, s_ac, s_mx, s_mn, s_cpy, s_kp, s_ri, s_rz, s_rv, s_cv, s_cs, s_rem, s_div, az_gl, az_sl, az_kp, az_pop, az_fun, az_funX, az_pat, az_in, List.map, List.replicate, List.length, List.cons_append, List.nil_append, Option.toList, f_add, f_sub, f_mul, f_neg, c_eq, c_ne, c_lt, c_ge, c_gt, c_le, d_eq, d_ne, d_lt, d_ge, d_gt, d_le, vinT, nIclamp, nIadd, nImul, nIeq, nIle, nIlt, nIlt0, nIge0, nIgt0, nIle0, nIeq0, ltT, ltF, leT, leF, eqT, eqF, upS, upN, k_n, az_setI, az_setA, true_and, and_true, and_self, true_implies, false_implies, implies_true, not_true_eq_false, not_false_eq_true, Nat.add_zero, Nat.zero_add, Nat.reduceAdd, Nat.reduceSub, Nat.reduceMul, Nat.reduceLT, Nat.reduceLeDiff, Nat.reduceEqDiff, Nat.reducePow, reduceIte, ne_eq, false_and, and_false, exists_eq_left', or_true, true_or, or_false, false_or, nI1one, nI0one, bI0, bI1, bIor, bI_z, bI_1, Bool.not_eq_true, Bool.not_eq_false, Bool.true_eq_false, Bool.false_eq_true, BX12_findWay_51, e, r9, k_s_354, k_f_354_0, k_f_354_1, k_f_354_3, k_f_354_6, k_f_354_8, k_f_354_9, k_f_354_10, k_f_354_11, k_f_354_12, k_f_354_13, k_f_354_14, k_f_354_15, k_f_354_16, k_f_354_17, k_f_354_18, k_f_354_19, k_f_354_20, k_f_354_21, k_f_354_22, k_f_354_24, k_f_354_25, k_f_354_30, k_f_354_31, k_s_355, k_s_356, k_s_357, k_s_358, k_s_359, k_s_360, k_s_361, k_s_362, k_s_363, k_s_364, k_s_365, k_s_366, k_s_367, k_s_368, k_s_369, k_s_370, k_s_371, k_s_372, k_s_373, k_s_374, k_s_375, k_s_376, k_s_377, k_s_378, k_s_379, vu_n, vu_na, vu_ns, up_na]
        refine hZ3 (pPar S b') _ _ (by omega) ⟨pPar S b', rfl, by omega, fun c hc => ?_, fun q j z => by rw [upN (by omega)]; exact k3 q j z, rfl⟩
        rw [← k2 c hc, anc_step hV e k1]
        by_cases ec : c = b'
        · rw [ec, upS ⟨rfl, rfl⟩, if_pos rfl]
          rw [show nI 1 = 1 from rfl]
          grind
        · rw [upN (by omega), if_neg ec, Int32.zero_add]
    · have hp := (hV.2.2.2.2.2.2.2.2.2 a' (by omega) h1).1
      have r9 := hS2.2.2.2.2.2.2.2.2.1 a' (by omega) h1
      simp (disch := omega) only [s_ic, s_li, s_la, s_si, s_sa, s_inc, s_bin, s_un, s_dup, s_dup2, s_pop, s_if, s_if2, s_gi, s_gr, s_pi, s_pz, s_al, s_aa, s_as, s_az, s_ac, s_mx, s_mn, s_cpy, s_kp, s_ri, s_rz, s_rv, s_cv, s_cs, s_rem, s_div, az_gl, az_sl, az_kp, az_pop, az_fun, az_funX, az_pat, az_in, List.map, List.replicate, List.length, List.cons_append, List.nil_append, Option.toList, f_add, f_sub, f_mul, f_neg, c_eq, c_ne, c_lt, c_ge, c_gt, c_le, d_eq, d_ne, d_lt, d_ge, d_gt, d_le, vinT, nIclamp, nIadd, nImul, nIeq, nIle, nIlt, nIlt0, nIge0, nIgt0, nIle0, nIeq0, ltT, ltF, leT, leF, eqT, eqF, upS, upN, k_n, az_setI, az_setA, true_and, and_true, and_self, true_implies, false_implies, implies_true, not_true_eq_false, not_false_eq_true, Nat.add_zero, Nat.zero_add, Nat.reduceAdd, Nat.reduceSub, Nat.reduceMul, Nat.reduceLT, Nat.reduceLeDiff, Nat.reduceEqDiff, Nat.reducePow, reduceIte, ne_eq, false_and, and_false, exists_eq_left', or_true, true_or, or_false, false_or, nI1one, nI0one, bI0, bI1, bIor, bI_z, bI_1, Bool.not_eq_true, Bool.not_eq_false, Bool.true_eq_false, Bool.false_eq_true, BX12_findWay_22, e, r9, k_s_354, k_f_354_0, k_f_354_1, k_f_354_3, k_f_354_6, k_f_354_8, k_f_354_9, k_f_354_10, k_f_354_11, k_f_354_12, k_f_354_13, k_f_354_14, k_f_354_15, k_f_354_16, k_f_354_17, k_f_354_18, k_f_354_19, k_f_354_20, k_f_354_21, k_f_354_22, k_f_354_24, k_f_354_25, k_f_354_30, k_f_354_31, k_s_355, k_s_356, k_s_357, k_s_358, k_s_359, k_s_360, k_s_361, k_s_362, k_s_363, k_s_364, k_s_365, k_s_366, k_s_367, k_s_368, k_s_369, k_s_370, k_s_371, k_s_372, k_s_373, k_s_374, k_s_375, k_s_376, k_s_377, k_s_378, k_s_379, vu_n, vu_na, vu_ns, up_na]
      refine hZ2 (pPar S a') _ _ (by omega) ⟨pPar S a', rfl, by omega, fun c hc => ?_, fun q j z => by rw [upN (by omega)]; exact h3 q j z, rfl⟩
      rw [← h2 c hc, anc_step hV e h1]
      by_cases ec : c = a'
      · rw [ec, upS ⟨rfl, rfl⟩, if_pos rfl]
        rw [show nI 1 = 1 from rfl]
        grind
      · rw [upN (by omega), if_neg ec, Int32.zero_add]
/-- the amount as the model finds it -/
def gmF (S : PS) (fl : Nat → Int32) (a b : Nat) (v : Int32) : Nat → Int32
  | 0 => v
  | n + 1 => if drW S a b (1 + n) = 0 then gmF S fl a b v n else mnI (gmF S fl a b v n) (pL S (1 + n) - drW S a b (1 + n) * fl (1 + n))
theorem gmF_le {S : PS} {fl : Nat → Int32} {a b : Nat} {v z : Int32} : ∀ n, z ≤ gmF S fl a b v n ↔ z ≤ v ∧ ∀ c, 1 ≤ c → c < 1 + n → drW S a b c ≠ 0 → z ≤ pL S c - drW S a b c * fl c
  | 0 => ⟨fun h => ⟨h, fun c q1 q2 => absurd q2 (by omega)⟩, fun h => h.1⟩
  | n + 1 => by
    have ih := gmF_le (S := S) (fl := fl) (a := a) (b := b) (v := v) (z := z) n
    unfold gmF
    by_cases e : drW S a b (1 + n) = 0
    · rw [if_pos e, ih]
      constructor
      · rintro ⟨h1, h2⟩
        refine ⟨h1, fun c q1 q2 q3 => h2 c q1 ?_ q3⟩
        by_cases ec : c = 1 + n
        · rw [ec] at q3; exact absurd e q3
        · omega
      · rintro ⟨h1, h2⟩
        exact ⟨h1, fun c q1 q2 q3 => h2 c q1 (by omega) q3⟩
    · rw [if_neg e, le_mn, ih]
      constructor
      · rintro ⟨⟨h1, h2⟩, h3⟩
        refine ⟨h1, fun c q1 q2 q3 => ?_⟩
        by_cases ec : c = 1 + n
        · rw [ec]; exact h3
        · exact h2 c q1 (by omega) q3
      · rintro ⟨h1, h2⟩
        exact ⟨⟨h1, fun c q1 q2 q3 => h2 c q1 (by omega) q3⟩, h2 _ (by omega) (by omega) e⟩
theorem gm_amt {S : PS} (hV : VS S) {um fl : Nat → Int32} {a b : Nat} {left : Int32} (ha : a < pB S) (hb : b < pB S) : gmF S fl a b (mnI left (um b)) (pB S - 1) = gAmt S um fl a b left := by
  have hB := hV.2.1
  apply le_anti
  intro z
  unfold gAmt
  rw [gmF_le, le_mn (y := gRoom S fl a b), gRoom_le hV ha hb]
  constructor
  · rintro ⟨h1, h2⟩
    refine ⟨h1, fun c hc => ?_⟩
    by_cases q1 : c = 0
    · rw [q1, drW_0 hV (by omega) (by omega)] at hc; exact absurd rfl hc
    · by_cases q2 : c < pB S
      · exact h2 c (by omega) (by omega) hc
      · exact absurd (drW_hi hV (by omega) (by omega) (by omega) (by omega)) hc
  · rintro ⟨h1, h2⟩
    exact ⟨h1, fun c _ _ hc => h2 c hc⟩
/-- what holds of a delivery under way -/
def IV (S : PS) (d : DT) : Prop := 0 ≤ d.1.toInt ∧ (∀ c, c < pB S → 0 ≤ (d.2.1 c).toInt) ∧ ∀ c, 1 ≤ c → c < 4 → -(pL S c).toInt ≤ (d.2.2.1 c).toInt ∧ (d.2.2.1 c).toInt ≤ (pL S c).toInt
theorem rs_T {S : PS} (hV : VS S) {fl : Nat → Int32} {a b c : Nat} (ha : a < 4) (hb : b < 4) (hf : ∀ c, 1 ≤ c → c < 4 → -(pL S c).toInt ≤ (fl c).toInt ∧ (fl c).toInt ≤ (pL S c).toInt) (hc : drW S a b c ≠ 0) : 1 ≤ c ∧ c < 4 ∧ ((drW S a b c = 1 ∧ (pL S c - drW S a b c * fl c).toInt = (pL S c).toInt - (fl c).toInt) ∨ (drW S a b c = -1 ∧ (pL S c - drW S a b c * fl c).toInt = (pL S c).toInt + (fl c).toInt)) := by
  have q1 : c ≠ 0 := fun z => by rw [z, drW_0 hV ha hb] at hc; exact hc rfl
  have q2 : c < 4 := by
    rcases Nat.lt_or_ge c 4 with q | q
    · exact q
    · exact absurd (drW_hi hV (by omega) (by omega) ha hb) hc
  have hl := (hV.2.2.2.2.2.2.2.2.2 c (by omega) q2).2
  unfold inI at hl
  have hf := hf c (by omega) q2
  refine ⟨by omega, q2, ?_⟩
  rcases drW_3 hV c ha hb with r | r | r
  · exact absurd r hc
  · refine Or.inl ⟨r, ?_⟩
    rw [r, Int32.one_mul, tI_sub (by omega)]
  · refine Or.inr ⟨r, ?_⟩
    rw [r, show pL S c - (-1) * fl c = pL S c + fl c by grind, tI_add (by omega)]
theorem amt_T {S : PS} (hV : VS S) {d : DT} {a b : Nat} (ha : a < pB S) (hb : b < pB S) (hI : IV S d) : 0 ≤ (gAmt S d.2.1 d.2.2.1 a b d.1).toInt ∧ (gAmt S d.2.1 d.2.2.1 a b d.1).toInt ≤ d.1.toInt ∧ (gAmt S d.2.1 d.2.2.1 a b d.1).toInt ≤ (d.2.1 b).toInt ∧ ∀ c, drW S a b c ≠ 0 → (gAmt S d.2.1 d.2.2.1 a b d.1).toInt ≤ (pL S c - drW S a b c * d.2.2.1 c).toInt := by
  have hB := hV.2.1
  obtain ⟨h1, h2, h3⟩ := hI
  have hle := Int32.le_refl (gAmt S d.2.1 d.2.2.1 a b d.1)
  conv at hle => rhs; unfold gAmt
  rw [le_mn, le_mn, gRoom_le hV ha hb] at hle
  obtain ⟨⟨q1, q2⟩, q3⟩ := hle
  rw [le_T] at q1 q2
  have h0 : (0 : Int32) ≤ gAmt S d.2.1 d.2.2.1 a b d.1 := by
    unfold gAmt
    rw [le_mn, le_mn, gRoom_le hV ha hb, le_T, le_T, tI_0]
    refine ⟨⟨h1, h2 b hb⟩, fun c hc => ?_⟩
    rw [le_T, tI_0]
    obtain ⟨z1, z2, z3⟩ := rs_T hV (fl := d.2.2.1) (by omega) (by omega) h3 hc
    have := h3 c z1 z2
    rcases z3 with ⟨_, z⟩ | ⟨_, z⟩ <;> rw [z] <;> omega
  rw [le_T, tI_0] at h0
  exact ⟨h0, q1, q2, fun c hc => by have := q3 c hc; rw [le_T] at this; exact this⟩
theorem IV_give {S : PS} (hV : VS S) {d : DT} {a b : Nat} (ha : a < pB S) (hb : b < pB S) (hI : IV S d) : IV S (dGive S a b d) := by
  have hB := hV.2.1
  obtain ⟨q1, q2, q3, q4⟩ := amt_T hV ha hb hI
  obtain ⟨h1, h2, h3⟩ := hI
  have b1 := Int32.toInt_lt d.1
  have b2 := Int32.toInt_lt (d.2.1 b)
  refine ⟨?_, fun c hc => ?_, fun c z1 z2 => ?_⟩
  · show 0 ≤ (d.1 - gAmt S d.2.1 d.2.2.1 a b d.1).toInt
    rw [tI_sub (by omega)]; omega
  · show 0 ≤ (va_up d.2.1 b (d.2.1 b - gAmt S d.2.1 d.2.2.1 a b d.1) c).toInt
    unfold va_up
    by_cases e : c = b
    · rw [if_pos e, tI_sub (by omega)]; omega
    · rw [if_neg e]; exact h2 c hc
  · show -(pL S c).toInt ≤ (gCar S d.2.2.1 a b (gAmt S d.2.1 d.2.2.1 a b d.1) c).toInt ∧ (gCar S d.2.2.1 a b (gAmt S d.2.1 d.2.2.1 a b d.1) c).toInt ≤ (pL S c).toInt
    rw [gCar_eq hV ha hb]
    have hl := (hV.2.2.2.2.2.2.2.2.2 c z1 z2).2
    unfold inI at hl
    have hf := h3 c z1 z2
    by_cases hc : drW S a b c = 0
    · rw [hc, Int32.zero_mul, Int32.add_zero]; exact hf
    · have hq := q4 c hc
      obtain ⟨_, _, z3⟩ := rs_T hV (fl := d.2.2.1) (by omega) (by omega) h3 hc
      generalize gAmt S d.2.1 d.2.2.1 a b d.1 = x at *
      rcases z3 with ⟨w, z⟩ | ⟨w, z⟩
      · rw [z] at hq
        rw [w, Int32.one_mul, tI_add (by omega)]; omega
      · rw [z] at hq
        rw [w, show d.2.2.1 c + (-1) * x = d.2.2.1 c - x by grind, tI_sub (by omega)]; omega
theorem give_0 {S : PS} (hV : VS S) {d : DT} {a b : Nat} (ha : a < pB S) (hb : b < pB S) (hI : IV S d) (h0 : ¬ 0 < d.1) : dGive S a b d = d := by
  obtain ⟨q1, q2, q3, q4⟩ := amt_T hV ha hb hI
  have h1 := hI.1
  rw [lt_T, tI_0] at h0
  have ex : gAmt S d.2.1 d.2.2.1 a b d.1 = 0 := Int32.toInt_inj.mp (by rw [tI_0]; omega)
  unfold dGive
  rw [ex, Int32.sub_zero, Int32.sub_zero, Int32.add_zero]
  have e1 : ∀ (f : Nat → Int32), va_up f b (f b) = f := fun f => funext (fun c => by unfold va_up; split <;> simp_all)
  have e2 : gCar S d.2.2.1 a b 0 = d.2.2.1 := funext (fun c => by rw [gCar_eq hV ha hb, Int32.mul_zero, Int32.add_zero])
  rw [e1, e1, e2]
theorem IV_it {S : PS} (hV : VS S) {d : DT} {a : Nat} (ha : a < pB S) (hI : IV S d) : ∀ n, n ≤ pB S → IV S (dIt S a d n)
  | 0, _ => IV_give hV ha ha hI
  | n + 1, hn => by
    have ih := IV_it hV ha hI n (by omega)
    show IV S (dStep S a n (dIt S a d n))
    unfold dStep
    split
    · exact IV_give hV ha (by omega) ih
    · exact ih
/-- the model's order of the buses -/
def mD (S : PS) (a : Nat) (d : DT) : Nat → DT
  | 0 => d
  | k + 1 => dIt S a d (if k ≤ a then k else k + 1)
def mB (a k : Nat) : Nat := if k = 0 then a else if k ≤ a then k - 1 else k
theorem mD_step {S : PS} (hV : VS S) {a k : Nat} {d : DT} (ha : a < pB S) (hk : k < pB S) (hI : IV S d) : mD S a d (k + 1) = dGive S a (mB a k) (mD S a d k) ∧ IV S (mD S a d k) ∧ mB a k < pB S := by
  have give : ∀ n, n < pB S → n ≠ a → dIt S a d (n + 1) = dGive S a n (dIt S a d n) := by
    intro n hn hne
    show dStep S a n (dIt S a d n) = _
    unfold dStep
    by_cases e : 0 < (dIt S a d n).1
    · rw [if_pos ⟨e, hne⟩]
    · rw [if_neg (fun z => e z.1), give_0 hV ha hn (IV_it hV ha hI n (by omega)) e]
  have skip : dIt S a d (a + 1) = dIt S a d a := by
    show dStep S a a (dIt S a d a) = _
    unfold dStep
    rw [if_neg (fun z => z.2 rfl)]
  cases k with
  | zero => exact ⟨by show dIt S a d (if 0 ≤ a then 0 else 0 + 1) = _; rw [if_pos (by omega)]; rfl, hI, ha⟩
  | succ k =>
    have e2 : mD S a d (k + 1) = dIt S a d (if k ≤ a then k else k + 1) := rfl
    have e1 : mD S a d (k + 1 + 1) = dIt S a d (if k + 1 ≤ a then k + 1 else k + 1 + 1) := rfl
    have e3 : mB a (k + 1) = if k + 1 ≤ a then k else k + 1 := by unfold mB; rw [if_neg (by omega)]; rfl
    rw [e1, e3, e2]
    by_cases c1 : k + 1 ≤ a
    · rw [if_pos c1, if_pos c1, if_pos (by omega)]
      exact ⟨give k (by omega) (by omega), IV_it hV ha hI k (by omega), by omega⟩
    · rw [if_neg c1, if_neg c1]
      by_cases c2 : k ≤ a
      · have ek : k = a := by omega
        subst ek
        rw [if_pos c2, ← skip]
        exact ⟨give (k + 1) hk (by omega), IV_it hV ha hI _ (by omega), hk⟩
      · rw [if_neg c2]
        exact ⟨give (k + 1) hk (by omega), IV_it hV ha hI _ (by omega), hk⟩
theorem mD_end {S : PS} (hV : VS S) {a : Nat} {d : DT} (ha : a < pB S) : mD S a d (pB S) = dAll S a d := by
  obtain ⟨k, hk⟩ : ∃ k, pB S = k + 1 := ⟨pB S - 1, by have := hV.2.1.1; omega⟩
  unfold dAll
  rw [hk]
  show dIt S a d (if k ≤ a then k else k + 1) = _
  by_cases c : k ≤ a
  · rw [if_pos c]
    have : k = a := by omega
    subst this
    show _ = dStep S k k (dIt S k d k)
    unfold dStep
    rw [if_neg (fun z => z.2 rfl)]
  · rw [if_neg c]
