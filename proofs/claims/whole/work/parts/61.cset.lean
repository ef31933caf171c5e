set_option maxRecDepth 100000
set_option maxHeartbeats 1000000
abbrev eIX : String := "java/lang/IndexOutOfBoundsException"
abbrev eIA : String := "java/lang/IllegalArgumentException"
abbrev eIS : String := "java/lang/IllegalStateException"
theorem w_setDemand {I : Nat → Nat → Int32} {R : RT} {A : AT} {x y z : Int32} {Q : Option Value → az_M → Prop} {Xs : String → az_M → Prop} (hC : CR A I)
    (hQ : ∀ I', CR (spDem A x y z).2.2 I' → (∀ q j, 353 < q → I' q j = I q j) → fnC [eIX, eIA] Q Xs (spDem A x y z) (K0, I', R)) : FX11_setDemand [.ref 0, .int x, .int y, .int z] (K0, I, R) Q Xs := by
  have hC0 := hC
  obtain ⟨hV, hS, hH, hsv, hT, st, hst, hout⟩ := hC
  simp (disch := omega) only [s_ic, s_li, s_la, s_si, s_sa, s_inc, s_bin, s_un, s_dup, s_dup2, s_pop, s_if, s_if2, s_gi, s_gr, s_pi, s_pz, s_al, s_aa, s_as, s_az, s_ac, s_mx, s_mn, s_cpy, s_kp, s_ri, s_rz, s_rv, s_cv, s_cs, s_rem, s_div, az_gl, az_sl, az_kp, az_pop, az_fun, az_funX, az_pat, az_in, List.map, List.replicate, List.length, List.cons_append, List.nil_append, Option.toList, f_add, f_sub, f_mul, f_neg, c_eq, c_ne, c_lt, c_ge, c_gt, c_le, d_eq, d_ne, d_lt, d_ge, d_gt, d_le, vinT, nIclamp, nIadd, nImul, nIeq, nIle, nIlt, nIlt0, nIge0, nIgt0, nIle0, nIeq0, ltT, ltF, leT, leF, eqT, eqF, upS, upN, k_n, az_setI, az_setA, true_and, and_true, and_self, true_implies, false_implies, implies_true, not_true_eq_false, not_false_eq_true, Nat.add_zero, Nat.zero_add, Nat.reduceAdd, Nat.reduceSub, Nat.reduceMul, Nat.reduceLT, Nat.reduceLeDiff, Nat.reduceEqDiff, Nat.reducePow, reduceIte, ne_eq, false_and, and_false, exists_eq_left', or_true, true_or, or_false, false_or, nI1one, nI0one, bI0, bI1, bIor, bI_z, bI_1, Bool.not_eq_true, Bool.not_eq_false, Bool.true_eq_false, Bool.false_eq_true, FX11_setDemand, PX11_setDemand, LX11_setDemand_16, e_isBus hS, e_isHour hS, e_within, s_thr, k_s_0, k_f_0_0, k_f_0_1, k_f_0_2, k_f_0_3, k_f_0_4, k_f_0_5, k_f_0_6, k_f_0_7, k_s_47, k_f_47_0, k_s_48, k_r_48, k_s_233, k_f_233_0, k_f_233_1, k_f_233_2, k_f_233_3, k_f_233_4, k_f_233_5, k_f_233_6, k_f_233_7, k_f_233_8, k_f_233_9, k_s_234, k_f_234_0, k_f_234_1, k_f_234_2, k_s_235, k_s_236, k_s_237, k_s_238, k_f_238_0, k_f_238_1, k_f_238_2, k_s_239, k_s_240, k_r_240, k_t_240, k_s_247, k_r_247, k_t_247, k_s_254, k_f_254_0, k_f_254_1, k_f_254_2, k_s_255, k_r_255, k_t_255, k_s_260, k_r_260, k_t_260, k_s_265, k_r_265, k_t_265, k_s_290, k_r_290, k_t_290, k_s_297, k_r_297, k_t_297, k_s_304, k_r_304, k_t_304, k_s_311, k_r_311, k_t_311, k_s_318, k_r_318, k_t_318, k_s_325, k_r_325, k_t_325, k_s_339, k_s_340, k_f_340_0, k_f_340_1, k_f_340_2, k_f_340_3, k_s_341, k_s_342, k_s_343, k_s_344, k_s_345, k_f_345_0, k_f_345_1, k_s_346, k_s_347, k_s_348, k_f_348_0, k_f_348_1, k_f_348_2, k_s_349, k_s_350, k_s_351, k_s_352, k_f_352_0, k_s_353, k_s_1, k_s_2, k_s_9, k_s_16, k_s_21, k_s_22, k_s_23, k_f_1_5, k_f_1_6, k_f_1_7, k_f_1_8, k_f_1_9, k_f_1_10, k_r_2, k_t_2, k_r_9, k_t_9, k_r_16, k_t_16]
  unfold spDem at hQ
  have t1 := hQ I
  refine ⟨fun e => ?_, fun e1 => ⟨fun e2 => ⟨fun e3 => ?_, fun e3 => ?_⟩, fun e2 => ?_⟩⟩
  · rw [if_pos (Or.inl e)] at t1; exact t1 hC0 (fun _ _ _ => rfl)
  · rw [if_neg (by rw [e1, e2]; simp), if_neg (by rw [e3]; simp)] at hQ
    clear t1
    have hB := hV.2.1.2
    have hHH := hV.1.2
    obtain ⟨c, hc, rfl⟩ := isB_t (by omega) e1
    obtain ⟨h, hh, rfl⟩ := isB_t (by omega) e2
    unfold iN at hQ
    rw [nI_clamp (by omega), nI_clamp (by omega)] at hQ
    refine w_beginChange hV hS hH (fun I1 a1 a2 a3 => ?_)
    have hS1 := CS_frame (I' := I1) hV.2.2.2.1 hV.2.2.2.2.1 hS (fun a j _ _ => a3 _ _ (by omega) (by omega))
    have cd : I1 (17 + c) h = pD A.1 c h := hS1.2.2.2.2.2.2.2.2.2.2.1 c h (by omega) (by omega)
    simp (disch := omega) only [s_ic, s_li, s_la, s_si, s_sa, s_inc, s_bin, s_un, s_dup, s_dup2, s_pop, s_if, s_if2, s_gi, s_gr, s_pi, s_pz, s_al, s_aa, s_as, s_az, s_ac, s_mx, s_mn, s_cpy, s_kp, s_ri, s_rz, s_rv, s_cv, s_cs, s_rem, s_div, az_gl, az_sl, az_kp, az_pop, az_fun, az_funX, az_pat, az_in, List.map, List.replicate, List.length, List.cons_append, List.nil_append, Option.toList, f_add, f_sub, f_mul, f_neg, c_eq, c_ne, c_lt, c_ge, c_gt, c_le, d_eq, d_ne, d_lt, d_ge, d_gt, d_le, vinT, nIclamp, nIadd, nImul, nIeq, nIle, nIlt, nIlt0, nIge0, nIgt0, nIle0, nIeq0, ltT, ltF, leT, leF, eqT, eqF, upS, upN, k_n, az_setI, az_setA, true_and, and_true, and_self, true_implies, false_implies, implies_true, not_true_eq_false, not_false_eq_true, Nat.add_zero, Nat.zero_add, Nat.reduceAdd, Nat.reduceSub, Nat.reduceMul, Nat.reduceLT, Nat.reduceLeDiff, Nat.reduceEqDiff, Nat.reducePow, reduceIte, ne_eq, false_and, and_false, exists_eq_left', or_true, true_or, or_false, false_or, nI1one, nI0one, bI0, bI1, bIor, bI_z, bI_1, Bool.not_eq_true, Bool.not_eq_false, Bool.true_eq_false, Bool.false_eq_true, k_f_0_0, cd, k_s_0, k_f_0_0, k_f_0_1, k_f_0_2, k_f_0_3, k_f_0_4, k_f_0_5, k_f_0_6, k_f_0_7, k_s_47, k_f_47_0, k_s_48, k_r_48, k_s_233, k_f_233_0, k_f_233_1, k_f_233_2, k_f_233_3, k_f_233_4, k_f_233_5, k_f_233_6, k_f_233_7, k_f_233_8, k_f_233_9, k_s_234, k_f_234_0, k_f_234_1, k_f_234_2, k_s_235, k_s_236, k_s_237, k_s_238, k_f_238_0, k_f_238_1, k_f_238_2, k_s_239, k_s_240, k_r_240, k_t_240, k_s_247, k_r_247, k_t_247, k_s_254, k_f_254_0, k_f_254_1, k_f_254_2, k_s_255, k_r_255, k_t_255, k_s_260, k_r_260, k_t_260, k_s_265, k_r_265, k_t_265, k_s_290, k_r_290, k_t_290, k_s_297, k_r_297, k_t_297, k_s_304, k_r_304, k_t_304, k_s_311, k_r_311, k_t_311, k_s_318, k_r_318, k_t_318, k_s_325, k_r_325, k_t_325, k_s_339, k_s_340, k_f_340_0, k_f_340_1, k_f_340_2, k_f_340_3, k_s_341, k_s_342, k_s_343, k_s_344, k_s_345, k_f_345_0, k_f_345_1, k_s_346, k_s_347, k_s_348, k_f_348_0, k_f_348_1, k_f_348_2, k_s_349, k_s_350, k_s_351, k_s_352, k_f_352_0, k_s_353, k_s_1, k_s_2, k_s_9, k_s_16, k_s_21, k_s_22, k_s_23, k_f_1_5, k_f_1_6, k_f_1_7, k_f_1_8, k_f_1_9, k_f_1_10, k_r_2, k_t_2, k_r_9, k_t_9, k_r_16, k_t_16]
    refine hQ _ (CR_chg hC0 (HR_frame a1 (fun q j _ _ => by rw [upN (by omega)])) (by rw [upN (by omega)]; exact a2) (fun q j z => by rw [upN (by omega), a3 _ _ (by omega) (by omega)]) ?_ ?_) (fun q j z => by rw [upN (by omega), a3 _ _ (by omega) (by omega)])
    · refine ⟨hV.1, hV.2.1, hV.2.2.1, hV.2.2.2.1, hV.2.2.2.2.1, hV.2.2.2.2.2.1, hV.2.2.2.2.2.2.1, fun c' h' => ?_, hV.2.2.2.2.2.2.2.2.1, hV.2.2.2.2.2.2.2.2.2⟩
      show inI 0 500 (if c' = c ∧ h' = h then z else pD A.1 c' h')
      by_cases e : c' = c ∧ h' = h
      · rw [if_pos e]; exact inW_i (a := 0) (b := 500) (by decide) (by decide) e3
      · rw [if_neg e]; exact hV.2.2.2.2.2.2.2.1 c' h'
    · obtain ⟨s1, s2, s3, s4, s5, s6, s7, s8, s9, s10, s11, s12, s13, s14⟩ := hS1
      have hU := hV.2.2.2.1
      have hO := hV.2.2.2.2.1
      refine ⟨?_, ?_, ?_, ?_, ?_, ?_, ?_, ?_, ?_, ?_, ?_, ?_, ?_, ?_⟩
      · repeat rw [upN (by omega)]
        exact s1
      · repeat rw [upN (by omega)]
        exact s2
      · repeat rw [upN (by omega)]
        exact s3
      · repeat rw [upN (by omega)]
        exact s4
      · repeat rw [upN (by omega)]
        exact s5
      · intro u k hu hk hk8; have hu' : u < pU (A.1) := hu; repeat rw [upN (by omega)]
        exact s6 u k hu hk hk8
      · intro u hu; have hu' : u < pU (A.1) := hu; repeat rw [upN (by omega)]
        exact s7 u hu
      · intro o ho; have ho' : o < pO (A.1) := ho; repeat rw [upN (by omega)]
        exact s8 o ho
      · intro o ho; have ho' : o < pO (A.1) := ho; repeat rw [upN (by omega)]
        exact s9 o ho
      · intro o ho; have ho' : o < pO (A.1) := ho; repeat rw [upN (by omega)]
        exact s10 o ho
      · intro c' h' hc' hh'; show _ = if c' = c ∧ h' = h then z else pD A.1 c' h'; (by_cases e : c' = c ∧ h' = h; (rw [if_pos e, upS (by omega)]); (rw [if_neg e, upN (by omega)]; exact s11 c' h' hc' hh'))
      · intro h hh; repeat rw [upN (by omega)]
        exact s12 h hh
      · intro c hc hc2; repeat rw [upN (by omega)]
        exact s13 c hc hc2
      · intro c hc hc2; repeat rw [upN (by omega)]
        exact s14 c hc hc2
  · rw [if_neg (by rw [e1, e2]; simp), if_pos e3] at t1; exact t1 hC0 (fun _ _ _ => rfl)
  · rw [if_pos (Or.inr e2)] at t1; exact t1 hC0 (fun _ _ _ => rfl)
theorem w_setReserve {I : Nat → Nat → Int32} {R : RT} {A : AT} {y z : Int32} {Q : Option Value → az_M → Prop} {Xs : String → az_M → Prop} (hC : CR A I)
    (hQ : ∀ I', CR (spRes A y z).2.2 I' → (∀ q j, 353 < q → I' q j = I q j) → fnC [eIX, eIA] Q Xs (spRes A y z) (K0, I', R)) : FX11_setReserve [.ref 0, .int y, .int z] (K0, I, R) Q Xs := by
  have hC0 := hC
  obtain ⟨hV, hS, hH, hsv, hT, st, hst, hout⟩ := hC
  simp (disch := omega) only [s_ic, s_li, s_la, s_si, s_sa, s_inc, s_bin, s_un, s_dup, s_dup2, s_pop, s_if, s_if2, s_gi, s_gr, s_pi, s_pz, s_al, s_aa, s_as, s_az, s_ac, s_mx, s_mn, s_cpy, s_kp, s_ri, s_rz, s_rv, s_cv, s_cs, s_rem, s_div, az_gl, az_sl, az_kp, az_pop, az_fun, az_funX, az_pat, az_in, List.map, List.replicate, List.length, List.cons_append, List.nil_append, Option.toList, f_add, f_sub, f_mul, f_neg, c_eq, c_ne, c_lt, c_ge, c_gt, c_le, d_eq, d_ne, d_lt, d_ge, d_gt, d_le, vinT, nIclamp, nIadd, nImul, nIeq, nIle, nIlt, nIlt0, nIge0, nIgt0, nIle0, nIeq0, ltT, ltF, leT, leF, eqT, eqF, upS, upN, k_n, az_setI, az_setA, true_and, and_true, and_self, true_implies, false_implies, implies_true, not_true_eq_false, not_false_eq_true, Nat.add_zero, Nat.zero_add, Nat.reduceAdd, Nat.reduceSub, Nat.reduceMul, Nat.reduceLT, Nat.reduceLeDiff, Nat.reduceEqDiff, Nat.reducePow, reduceIte, ne_eq, false_and, and_false, exists_eq_left', or_true, true_or, or_false, false_or, nI1one, nI0one, bI0, bI1, bIor, bI_z, bI_1, Bool.not_eq_true, Bool.not_eq_false, Bool.true_eq_false, Bool.false_eq_true, FX11_setReserve, PX11_setReserve, e_isHour hS, e_within, s_thr, k_s_0, k_f_0_0, k_f_0_1, k_f_0_2, k_f_0_3, k_f_0_4, k_f_0_5, k_f_0_6, k_f_0_7, k_s_47, k_f_47_0, k_s_48, k_r_48, k_s_233, k_f_233_0, k_f_233_1, k_f_233_2, k_f_233_3, k_f_233_4, k_f_233_5, k_f_233_6, k_f_233_7, k_f_233_8, k_f_233_9, k_s_234, k_f_234_0, k_f_234_1, k_f_234_2, k_s_235, k_s_236, k_s_237, k_s_238, k_f_238_0, k_f_238_1, k_f_238_2, k_s_239, k_s_240, k_r_240, k_t_240, k_s_247, k_r_247, k_t_247, k_s_254, k_f_254_0, k_f_254_1, k_f_254_2, k_s_255, k_r_255, k_t_255, k_s_260, k_r_260, k_t_260, k_s_265, k_r_265, k_t_265, k_s_290, k_r_290, k_t_290, k_s_297, k_r_297, k_t_297, k_s_304, k_r_304, k_t_304, k_s_311, k_r_311, k_t_311, k_s_318, k_r_318, k_t_318, k_s_325, k_r_325, k_t_325, k_s_339, k_s_340, k_f_340_0, k_f_340_1, k_f_340_2, k_f_340_3, k_s_341, k_s_342, k_s_343, k_s_344, k_s_345, k_f_345_0, k_f_345_1, k_s_346, k_s_347, k_s_348, k_f_348_0, k_f_348_1, k_f_348_2, k_s_349, k_s_350, k_s_351, k_s_352, k_f_352_0, k_s_353, k_s_1, k_s_2, k_s_9, k_s_16, k_s_21, k_s_22, k_s_23, k_f_1_5, k_f_1_6, k_f_1_7, k_f_1_8, k_f_1_9, k_f_1_10, k_r_2, k_t_2, k_r_9, k_t_9, k_r_16, k_t_16]
  unfold spRes at hQ
  have t1 := hQ I
  refine ⟨fun e2 => ⟨fun e3 => ?_, fun e3 => ?_⟩, fun e2 => ?_⟩
  · rw [if_neg (by rw [e2]; simp), if_neg (by rw [e3]; simp)] at hQ
    clear t1
    have hHH := hV.1.2
    obtain ⟨h, hh, rfl⟩ := isB_t (by omega) e2
    unfold iN at hQ
    rw [nI_clamp (by omega)] at hQ
    refine w_beginChange hV hS hH (fun I1 a1 a2 a3 => ?_)
    have hS1 := CS_frame (I' := I1) hV.2.2.2.1 hV.2.2.2.2.1 hS (fun a j _ _ => a3 _ _ (by omega) (by omega))
    have cd : I1 21 h = pR A.1 h := hS1.2.2.2.2.2.2.2.2.2.2.2.1 h (by omega)
    simp (disch := omega) only [s_ic, s_li, s_la, s_si, s_sa, s_inc, s_bin, s_un, s_dup, s_dup2, s_pop, s_if, s_if2, s_gi, s_gr, s_pi, s_pz, s_al, s_aa, s_as, s_az, s_ac, s_mx, s_mn, s_cpy, s_kp, s_ri, s_rz, s_rv, s_cv, s_cs, s_rem, s_div, az_gl, az_sl, az_kp, az_pop, az_fun, az_funX, az_pat, az_in, List.map, List.replicate, List.length, List.cons_append, List.nil_append, Option.toList, f_add, f_sub, f_mul, f_neg, c_eq, c_ne, c_lt, c_ge, c_gt, c_le, d_eq, d_ne, d_lt, d_ge, d_gt, d_le, vinT, nIclamp, nIadd, nImul, nIeq, nIle, nIlt, nIlt0, nIge0, nIgt0, nIle0, nIeq0, ltT, ltF, leT, leF, eqT, eqF, upS, upN, k_n, az_setI, az_setA, true_and, and_true, and_self, true_implies, false_implies, implies_true, not_true_eq_false, not_false_eq_true, Nat.add_zero, Nat.zero_add, Nat.reduceAdd, Nat.reduceSub, Nat.reduceMul, Nat.reduceLT, Nat.reduceLeDiff, Nat.reduceEqDiff, Nat.reducePow, reduceIte, ne_eq, false_and, and_false, exists_eq_left', or_true, true_or, or_false, false_or, nI1one, nI0one, bI0, bI1, bIor, bI_z, bI_1, Bool.not_eq_true, Bool.not_eq_false, Bool.true_eq_false, Bool.false_eq_true, k_f_0_0, cd, k_s_0, k_f_0_0, k_f_0_1, k_f_0_2, k_f_0_3, k_f_0_4, k_f_0_5, k_f_0_6, k_f_0_7, k_s_47, k_f_47_0, k_s_48, k_r_48, k_s_233, k_f_233_0, k_f_233_1, k_f_233_2, k_f_233_3, k_f_233_4, k_f_233_5, k_f_233_6, k_f_233_7, k_f_233_8, k_f_233_9, k_s_234, k_f_234_0, k_f_234_1, k_f_234_2, k_s_235, k_s_236, k_s_237, k_s_238, k_f_238_0, k_f_238_1, k_f_238_2, k_s_239, k_s_240, k_r_240, k_t_240, k_s_247, k_r_247, k_t_247, k_s_254, k_f_254_0, k_f_254_1, k_f_254_2, k_s_255, k_r_255, k_t_255, k_s_260, k_r_260, k_t_260, k_s_265, k_r_265, k_t_265, k_s_290, k_r_290, k_t_290, k_s_297, k_r_297, k_t_297, k_s_304, k_r_304, k_t_304, k_s_311, k_r_311, k_t_311, k_s_318, k_r_318, k_t_318, k_s_325, k_r_325, k_t_325, k_s_339, k_s_340, k_f_340_0, k_f_340_1, k_f_340_2, k_f_340_3, k_s_341, k_s_342, k_s_343, k_s_344, k_s_345, k_f_345_0, k_f_345_1, k_s_346, k_s_347, k_s_348, k_f_348_0, k_f_348_1, k_f_348_2, k_s_349, k_s_350, k_s_351, k_s_352, k_f_352_0, k_s_353, k_s_1, k_s_2, k_s_9, k_s_16, k_s_21, k_s_22, k_s_23, k_f_1_5, k_f_1_6, k_f_1_7, k_f_1_8, k_f_1_9, k_f_1_10, k_r_2, k_t_2, k_r_9, k_t_9, k_r_16, k_t_16]
    refine hQ _ (CR_chg hC0 (HR_frame a1 (fun q j _ _ => by rw [upN (by omega)])) (by rw [upN (by omega)]; exact a2) (fun q j z => by rw [upN (by omega), a3 _ _ (by omega) (by omega)]) ?_ ?_) (fun q j z => by rw [upN (by omega), a3 _ _ (by omega) (by omega)])
    · refine ⟨hV.1, hV.2.1, hV.2.2.1, hV.2.2.2.1, hV.2.2.2.2.1, hV.2.2.2.2.2.1, hV.2.2.2.2.2.2.1, hV.2.2.2.2.2.2.2.1, fun h' => ?_, hV.2.2.2.2.2.2.2.2.2⟩
      show inI 0 500 (if h' = h then z else pR A.1 h')
      by_cases e : h' = h
      · rw [if_pos e]; exact inW_i (a := 0) (b := 500) (by decide) (by decide) e3
      · rw [if_neg e]; exact hV.2.2.2.2.2.2.2.2.1 h'
    · obtain ⟨s1, s2, s3, s4, s5, s6, s7, s8, s9, s10, s11, s12, s13, s14⟩ := hS1
      have hU := hV.2.2.2.1
      have hO := hV.2.2.2.2.1
      refine ⟨?_, ?_, ?_, ?_, ?_, ?_, ?_, ?_, ?_, ?_, ?_, ?_, ?_, ?_⟩
      · repeat rw [upN (by omega)]
        exact s1
      · repeat rw [upN (by omega)]
        exact s2
      · repeat rw [upN (by omega)]
        exact s3
      · repeat rw [upN (by omega)]
        exact s4
      · repeat rw [upN (by omega)]
        exact s5
      · intro u k hu hk hk8; have hu' : u < pU (A.1) := hu; repeat rw [upN (by omega)]
        exact s6 u k hu hk hk8
      · intro u hu; have hu' : u < pU (A.1) := hu; repeat rw [upN (by omega)]
        exact s7 u hu
      · intro o ho; have ho' : o < pO (A.1) := ho; repeat rw [upN (by omega)]
        exact s8 o ho
      · intro o ho; have ho' : o < pO (A.1) := ho; repeat rw [upN (by omega)]
        exact s9 o ho
      · intro o ho; have ho' : o < pO (A.1) := ho; repeat rw [upN (by omega)]
        exact s10 o ho
      · intro c h hc hh; repeat rw [upN (by omega)]
        exact s11 c h hc hh
      · intro h' hh'; show _ = if h' = h then z else pR A.1 h'; (by_cases e : h' = h; (rw [if_pos e, upS (by omega)]); (rw [if_neg e, upN (by omega)]; exact s12 h' hh'))
      · intro c hc hc2; repeat rw [upN (by omega)]
        exact s13 c hc hc2
      · intro c hc hc2; repeat rw [upN (by omega)]
        exact s14 c hc hc2
  · rw [if_neg (by rw [e2]; simp), if_pos e3] at t1; exact t1 hC0 (fun _ _ _ => rfl)
  · rw [if_pos e2] at t1; exact t1 hC0 (fun _ _ _ => rfl)
theorem w_setPolicy {I : Nat → Nat → Int32} {R : RT} {A : AT} {z : Int32} {Q : Option Value → az_M → Prop} {Xs : String → az_M → Prop} (hC : CR A I)
    (hQ : ∀ I', CR (spPol A z).2.2 I' → (∀ q j, 353 < q → I' q j = I q j) → fnC [eIA] Q Xs (spPol A z) (K0, I', R)) : FX11_setPolicy [.ref 0, .int z] (K0, I, R) Q Xs := by
  have hC0 := hC
  obtain ⟨hV, hS, hH, hsv, hT, st, hst, hout⟩ := hC
  simp (disch := omega) only [s_ic, s_li, s_la, s_si, s_sa, s_inc, s_bin, s_un, s_dup, s_dup2, s_pop, s_if, s_if2, s_gi, s_gr, s_pi, s_pz, s_al, s_aa, s_as, s_az, s_ac, s_mx, s_mn, s_cpy, s_kp, s_ri, s_rz, s_rv, s_cv, s_cs, s_rem, s_div, az_gl, az_sl, az_kp, az_pop, az_fun, az_funX, az_pat, az_in, List.map, List.replicate, List.length, List.cons_append, List.nil_append, Option.toList, f_add, f_sub, f_mul, f_neg, c_eq, c_ne, c_lt, c_ge, c_gt, c_le, d_eq, d_ne, d_lt, d_ge, d_gt, d_le, vinT, nIclamp, nIadd, nImul, nIeq, nIle, nIlt, nIlt0, nIge0, nIgt0, nIle0, nIeq0, ltT, ltF, leT, leF, eqT, eqF, upS, upN, k_n, az_setI, az_setA, true_and, and_true, and_self, true_implies, false_implies, implies_true, not_true_eq_false, not_false_eq_true, Nat.add_zero, Nat.zero_add, Nat.reduceAdd, Nat.reduceSub, Nat.reduceMul, Nat.reduceLT, Nat.reduceLeDiff, Nat.reduceEqDiff, Nat.reducePow, reduceIte, ne_eq, false_and, and_false, exists_eq_left', or_true, true_or, or_false, false_or, nI1one, nI0one, bI0, bI1, bIor, bI_z, bI_1, Bool.not_eq_true, Bool.not_eq_false, Bool.true_eq_false, Bool.false_eq_true, FX11_setPolicy, PX11_setPolicy, e_within, s_thr, k_s_0, k_f_0_0, k_f_0_1, k_f_0_2, k_f_0_3, k_f_0_4, k_f_0_5, k_f_0_6, k_f_0_7, k_s_47, k_f_47_0, k_s_48, k_r_48, k_s_233, k_f_233_0, k_f_233_1, k_f_233_2, k_f_233_3, k_f_233_4, k_f_233_5, k_f_233_6, k_f_233_7, k_f_233_8, k_f_233_9, k_s_234, k_f_234_0, k_f_234_1, k_f_234_2, k_s_235, k_s_236, k_s_237, k_s_238, k_f_238_0, k_f_238_1, k_f_238_2, k_s_239, k_s_240, k_r_240, k_t_240, k_s_247, k_r_247, k_t_247, k_s_254, k_f_254_0, k_f_254_1, k_f_254_2, k_s_255, k_r_255, k_t_255, k_s_260, k_r_260, k_t_260, k_s_265, k_r_265, k_t_265, k_s_290, k_r_290, k_t_290, k_s_297, k_r_297, k_t_297, k_s_304, k_r_304, k_t_304, k_s_311, k_r_311, k_t_311, k_s_318, k_r_318, k_t_318, k_s_325, k_r_325, k_t_325, k_s_339, k_s_340, k_f_340_0, k_f_340_1, k_f_340_2, k_f_340_3, k_s_341, k_s_342, k_s_343, k_s_344, k_s_345, k_f_345_0, k_f_345_1, k_s_346, k_s_347, k_s_348, k_f_348_0, k_f_348_1, k_f_348_2, k_s_349, k_s_350, k_s_351, k_s_352, k_f_352_0, k_s_353, k_s_1, k_s_2, k_s_9, k_s_16, k_s_21, k_s_22, k_s_23, k_f_1_5, k_f_1_6, k_f_1_7, k_f_1_8, k_f_1_9, k_f_1_10, k_r_2, k_t_2, k_r_9, k_t_9, k_r_16, k_t_16]
  unfold spPol at hQ
  have t1 := hQ I
  refine ⟨fun e3 => ?_, fun e3 => ?_⟩
  · rw [if_neg (by rw [e3]; simp)] at hQ
    clear t1
    obtain ⟨h, -, hh, rfl⟩ := inW_t (by omega) (by omega) e3
    unfold iN at hQ
    rw [nI_clamp (by omega)] at hQ
    refine w_beginChange hV hS hH (fun I1 a1 a2 a3 => ?_)
    have hS1 := CS_frame (I' := I1) hV.2.2.2.1 hV.2.2.2.2.1 hS (fun a j _ _ => a3 _ _ (by omega) (by omega))
    have cd : I1 1 2 = nI (pP A.1) := hS1.2.2.1
    simp (disch := omega) only [s_ic, s_li, s_la, s_si, s_sa, s_inc, s_bin, s_un, s_dup, s_dup2, s_pop, s_if, s_if2, s_gi, s_gr, s_pi, s_pz, s_al, s_aa, s_as, s_az, s_ac, s_mx, s_mn, s_cpy, s_kp, s_ri, s_rz, s_rv, s_cv, s_cs, s_rem, s_div, az_gl, az_sl, az_kp, az_pop, az_fun, az_funX, az_pat, az_in, List.map, List.replicate, List.length, List.cons_append, List.nil_append, Option.toList, f_add, f_sub, f_mul, f_neg, c_eq, c_ne, c_lt, c_ge, c_gt, c_le, d_eq, d_ne, d_lt, d_ge, d_gt, d_le, vinT, nIclamp, nIadd, nImul, nIeq, nIle, nIlt, nIlt0, nIge0, nIgt0, nIle0, nIeq0, ltT, ltF, leT, leF, eqT, eqF, upS, upN, k_n, az_setI, az_setA, true_and, and_true, and_self, true_implies, false_implies, implies_true, not_true_eq_false, not_false_eq_true, Nat.add_zero, Nat.zero_add, Nat.reduceAdd, Nat.reduceSub, Nat.reduceMul, Nat.reduceLT, Nat.reduceLeDiff, Nat.reduceEqDiff, Nat.reducePow, reduceIte, ne_eq, false_and, and_false, exists_eq_left', or_true, true_or, or_false, false_or, nI1one, nI0one, bI0, bI1, bIor, bI_z, bI_1, Bool.not_eq_true, Bool.not_eq_false, Bool.true_eq_false, Bool.false_eq_true, k_f_0_0, cd, k_s_0, k_f_0_0, k_f_0_1, k_f_0_2, k_f_0_3, k_f_0_4, k_f_0_5, k_f_0_6, k_f_0_7, k_s_47, k_f_47_0, k_s_48, k_r_48, k_s_233, k_f_233_0, k_f_233_1, k_f_233_2, k_f_233_3, k_f_233_4, k_f_233_5, k_f_233_6, k_f_233_7, k_f_233_8, k_f_233_9, k_s_234, k_f_234_0, k_f_234_1, k_f_234_2, k_s_235, k_s_236, k_s_237, k_s_238, k_f_238_0, k_f_238_1, k_f_238_2, k_s_239, k_s_240, k_r_240, k_t_240, k_s_247, k_r_247, k_t_247, k_s_254, k_f_254_0, k_f_254_1, k_f_254_2, k_s_255, k_r_255, k_t_255, k_s_260, k_r_260, k_t_260, k_s_265, k_r_265, k_t_265, k_s_290, k_r_290, k_t_290, k_s_297, k_r_297, k_t_297, k_s_304, k_r_304, k_t_304, k_s_311, k_r_311, k_t_311, k_s_318, k_r_318, k_t_318, k_s_325, k_r_325, k_t_325, k_s_339, k_s_340, k_f_340_0, k_f_340_1, k_f_340_2, k_f_340_3, k_s_341, k_s_342, k_s_343, k_s_344, k_s_345, k_f_345_0, k_f_345_1, k_s_346, k_s_347, k_s_348, k_f_348_0, k_f_348_1, k_f_348_2, k_s_349, k_s_350, k_s_351, k_s_352, k_f_352_0, k_s_353, k_s_1, k_s_2, k_s_9, k_s_16, k_s_21, k_s_22, k_s_23, k_f_1_5, k_f_1_6, k_f_1_7, k_f_1_8, k_f_1_9, k_f_1_10, k_r_2, k_t_2, k_r_9, k_t_9, k_r_16, k_t_16]
    refine hQ _ (CR_chg hC0 (HR_frame a1 (fun q j _ _ => by rw [upN (by omega)])) (by rw [upN (by omega)]; exact a2) (fun q j z => by rw [upN (by omega), a3 _ _ (by omega) (by omega)]) ?_ ?_) (fun q j z => by rw [upN (by omega), a3 _ _ (by omega) (by omega)])
    · exact ⟨hV.1, hV.2.1, hh, hV.2.2.2.1, hV.2.2.2.2.1, hV.2.2.2.2.2.1, hV.2.2.2.2.2.2⟩
    · obtain ⟨s1, s2, s3, s4, s5, s6, s7, s8, s9, s10, s11, s12, s13, s14⟩ := hS1
      have hU := hV.2.2.2.1
      have hO := hV.2.2.2.2.1
      refine ⟨?_, ?_, ?_, ?_, ?_, ?_, ?_, ?_, ?_, ?_, ?_, ?_, ?_, ?_⟩
      · repeat rw [upN (by omega)]
        exact s1
      · repeat rw [upN (by omega)]
        exact s2
      · rw [upS ⟨rfl, rfl⟩]; rfl
      · repeat rw [upN (by omega)]
        exact s4
      · repeat rw [upN (by omega)]
        exact s5
      · intro u k hu hk hk8; have hu' : u < pU (A.1) := hu; repeat rw [upN (by omega)]
        exact s6 u k hu hk hk8
      · intro u hu; have hu' : u < pU (A.1) := hu; repeat rw [upN (by omega)]
        exact s7 u hu
      · intro o ho; have ho' : o < pO (A.1) := ho; repeat rw [upN (by omega)]
        exact s8 o ho
      · intro o ho; have ho' : o < pO (A.1) := ho; repeat rw [upN (by omega)]
        exact s9 o ho
      · intro o ho; have ho' : o < pO (A.1) := ho; repeat rw [upN (by omega)]
        exact s10 o ho
      · intro c h hc hh; repeat rw [upN (by omega)]
        exact s11 c h hc hh
      · intro h hh; repeat rw [upN (by omega)]
        exact s12 h hh
      · intro c hc hc2; repeat rw [upN (by omega)]
        exact s13 c hc hc2
      · intro c hc hc2; repeat rw [upN (by omega)]
        exact s14 c hc hc2
  · rw [if_pos e3] at t1; exact t1 hC0 (fun _ _ _ => rfl)
