set_option maxRecDepth 100000
set_option maxHeartbeats 2000000
/-- setUnit keeps what holds of every planner -/
theorem VS_setT {S : PS} {u k : Nat} {v : Int32} (hV : VS S) (hu : u < pU S) (hk : k < 8) (hf : ftT S u k v = true) : VS (setT S u k v) := by
  refine ⟨hV.1, hV.2.1, hV.2.2.1, hV.2.2.2.1, hV.2.2.2.2.1, fun u' hu' => ?_, hV.2.2.2.2.2.2⟩
  obtain ⟨v1, v2, v3, v4, v5, v6, v7, v8, v9, v10, v11, v12, v13, v14, v15, v16⟩ := hV.2.2.2.2.2.1 u' hu'
  by_cases e : u' = u
  · subst e
    have fA : pT (setT S u' k v) u' k = v := by
      show (if u' = u' then _ else _) = _
      rw [if_pos rfl, if_pos rfl]
    have fB : ∀ k', k' ≠ k → ¬ (k' = 7 ∧ k = 6) → pT (setT S u' k v) u' k' = pT S u' k' := by
      intro k' h1 h2
      show (if u' = u' then _ else _) = _
      rw [if_pos rfl, if_neg h1, if_neg (fun z => h2 ⟨z.1, z.2.1⟩), if_neg (fun z => h2 ⟨z.1, z.2.1⟩)]
    have hk' : k = 0 ∨ k = 1 ∨ k = 2 ∨ k = 3 ∨ k = 4 ∨ k = 5 ∨ k = 6 ∨ k = 7 := by omega
    rcases hk' with rfl | rfl | rfl | rfl | rfl | rfl | rfl | rfl
    · refine ⟨v1, by rw [fA]; exact inW_i (a := 0) (b := 10000) (by decide) (by decide) hf, by rw [fB 1 (by decide) (by decide)]; exact v3, by rw [fB 2 (by decide) (by decide)]; exact v4, by rw [fB 3 (by decide) (by decide)]; exact v5, by rw [fB 4 (by decide) (by decide)]; exact v6, by rw [fB 5 (by decide) (by decide)]; exact v7, by rw [fB 6 (by decide) (by decide)]; exact v8, by rw [fB 6 (by decide) (by decide)]; exact v9, by rw [fB 6 (by decide) (by decide), fB 7 (by decide) (by decide), fB 9 (by decide) (by decide), fB 10 (by decide) (by decide)]; exact v10, by rw [fB 9 (by decide) (by decide)]; exact v11, by rw [fB 10 (by decide) (by decide)]; exact v12, by rw [fB 9 (by decide) (by decide), fB 10 (by decide) (by decide)]; exact v13, by rw [fB 11 (by decide) (by decide)]; exact v14, by rw [fB 12 (by decide) (by decide)]; exact v15, fun i hi => by rw [fB 13 (by decide) (by decide)]; exact v16 i hi⟩
    · refine ⟨v1, by rw [fB 0 (by decide) (by decide)]; exact v2, by rw [fA]; exact inW_i (a := 0) (b := 10000) (by decide) (by decide) hf, by rw [fB 2 (by decide) (by decide)]; exact v4, by rw [fB 3 (by decide) (by decide)]; exact v5, by rw [fB 4 (by decide) (by decide)]; exact v6, by rw [fB 5 (by decide) (by decide)]; exact v7, by rw [fB 6 (by decide) (by decide)]; exact v8, by rw [fB 6 (by decide) (by decide)]; exact v9, by rw [fB 6 (by decide) (by decide), fB 7 (by decide) (by decide), fB 9 (by decide) (by decide), fB 10 (by decide) (by decide)]; exact v10, by rw [fB 9 (by decide) (by decide)]; exact v11, by rw [fB 10 (by decide) (by decide)]; exact v12, by rw [fB 9 (by decide) (by decide), fB 10 (by decide) (by decide)]; exact v13, by rw [fB 11 (by decide) (by decide)]; exact v14, by rw [fB 12 (by decide) (by decide)]; exact v15, fun i hi => by rw [fB 13 (by decide) (by decide)]; exact v16 i hi⟩
    · refine ⟨v1, by rw [fB 0 (by decide) (by decide)]; exact v2, by rw [fB 1 (by decide) (by decide)]; exact v3, by rw [fA]; exact inW_i (a := 0) (b := 10000) (by decide) (by decide) hf, by rw [fB 3 (by decide) (by decide)]; exact v5, by rw [fB 4 (by decide) (by decide)]; exact v6, by rw [fB 5 (by decide) (by decide)]; exact v7, by rw [fB 6 (by decide) (by decide)]; exact v8, by rw [fB 6 (by decide) (by decide)]; exact v9, by rw [fB 6 (by decide) (by decide), fB 7 (by decide) (by decide), fB 9 (by decide) (by decide), fB 10 (by decide) (by decide)]; exact v10, by rw [fB 9 (by decide) (by decide)]; exact v11, by rw [fB 10 (by decide) (by decide)]; exact v12, by rw [fB 9 (by decide) (by decide), fB 10 (by decide) (by decide)]; exact v13, by rw [fB 11 (by decide) (by decide)]; exact v14, by rw [fB 12 (by decide) (by decide)]; exact v15, fun i hi => by rw [fB 13 (by decide) (by decide)]; exact v16 i hi⟩
    · refine ⟨v1, by rw [fB 0 (by decide) (by decide)]; exact v2, by rw [fB 1 (by decide) (by decide)]; exact v3, by rw [fB 2 (by decide) (by decide)]; exact v4, by rw [fA]; exact inW_i (a := 0) (b := 24) (by decide) (by decide) hf, by rw [fB 4 (by decide) (by decide)]; exact v6, by rw [fB 5 (by decide) (by decide)]; exact v7, by rw [fB 6 (by decide) (by decide)]; exact v8, by rw [fB 6 (by decide) (by decide)]; exact v9, by rw [fB 6 (by decide) (by decide), fB 7 (by decide) (by decide), fB 9 (by decide) (by decide), fB 10 (by decide) (by decide)]; exact v10, by rw [fB 9 (by decide) (by decide)]; exact v11, by rw [fB 10 (by decide) (by decide)]; exact v12, by rw [fB 9 (by decide) (by decide), fB 10 (by decide) (by decide)]; exact v13, by rw [fB 11 (by decide) (by decide)]; exact v14, by rw [fB 12 (by decide) (by decide)]; exact v15, fun i hi => by rw [fB 13 (by decide) (by decide)]; exact v16 i hi⟩
    · refine ⟨v1, by rw [fB 0 (by decide) (by decide)]; exact v2, by rw [fB 1 (by decide) (by decide)]; exact v3, by rw [fB 2 (by decide) (by decide)]; exact v4, by rw [fB 3 (by decide) (by decide)]; exact v5, by rw [fA]; exact inW_i (a := 1) (b := 24) (by decide) (by decide) hf, by rw [fB 5 (by decide) (by decide)]; exact v7, by rw [fB 6 (by decide) (by decide)]; exact v8, by rw [fB 6 (by decide) (by decide)]; exact v9, by rw [fB 6 (by decide) (by decide), fB 7 (by decide) (by decide), fB 9 (by decide) (by decide), fB 10 (by decide) (by decide)]; exact v10, by rw [fB 9 (by decide) (by decide)]; exact v11, by rw [fB 10 (by decide) (by decide)]; exact v12, by rw [fB 9 (by decide) (by decide), fB 10 (by decide) (by decide)]; exact v13, by rw [fB 11 (by decide) (by decide)]; exact v14, by rw [fB 12 (by decide) (by decide)]; exact v15, fun i hi => by rw [fB 13 (by decide) (by decide)]; exact v16 i hi⟩
    · refine ⟨v1, by rw [fB 0 (by decide) (by decide)]; exact v2, by rw [fB 1 (by decide) (by decide)]; exact v3, by rw [fB 2 (by decide) (by decide)]; exact v4, by rw [fB 3 (by decide) (by decide)]; exact v5, by rw [fB 4 (by decide) (by decide)]; exact v6, by rw [fA]; exact inW_i (a := 1) (b := 24) (by decide) (by decide) hf, by rw [fB 6 (by decide) (by decide)]; exact v8, by rw [fB 6 (by decide) (by decide)]; exact v9, by rw [fB 6 (by decide) (by decide), fB 7 (by decide) (by decide), fB 9 (by decide) (by decide), fB 10 (by decide) (by decide)]; exact v10, by rw [fB 9 (by decide) (by decide)]; exact v11, by rw [fB 10 (by decide) (by decide)]; exact v12, by rw [fB 9 (by decide) (by decide), fB 10 (by decide) (by decide)]; exact v13, by rw [fB 11 (by decide) (by decide)]; exact v14, by rw [fB 12 (by decide) (by decide)]; exact v15, fun i hi => by rw [fB 13 (by decide) (by decide)]; exact v16 i hi⟩
    · have hf1 : v ≠ 0 ∧ inI (-24) 24 v := by
        have hf0 : (!decide (v = 0) && inW (-24) (nI 24) v) = true := hf
        rw [Bool.and_eq_true] at hf0
        refine ⟨by simpa using hf0.1, ?_⟩
        have := hf0.2
        unfold inW at this
        rw [Bool.and_eq_true, decide_eq_true_eq, decide_eq_true_eq, Int32.le_iff_toInt_le, Int32.le_iff_toInt_le] at this
        exact this
      have hv0 : v.toInt ≠ 0 := fun z => hf1.1 (Int32.toInt_inj.mp z)
      have f7 : pT (setT S u' 6 v) u' 7 = if v < 0 then nI 0 else if 0 < v ∧ pT S u' 6 < 0 then pT S u' 9 else pT S u' 7 := by
        show (if u' = u' then _ else _) = _
        rw [if_pos rfl, if_neg (by decide)]
        by_cases z : v < 0
        · rw [if_pos ⟨rfl, rfl, z⟩, if_pos z]
        · rw [if_neg (fun q => z q.2.2), if_neg z]
          by_cases z2 : 0 < v ∧ pT S u' 6 < 0
          · rw [if_pos ⟨rfl, rfl, z2⟩, if_pos z2]
          · rw [if_neg (fun q => z2 q.2.2), if_neg z2]
      have e9 := fB 9 (by decide) (by decide)
      have e10 := fB 10 (by decide) (by decide)
      have z0 : (0 : Int32).toInt = 0 := rfl
      refine ⟨v1, by rw [fB 0 (by decide) (by decide)]; exact v2, by rw [fB 1 (by decide) (by decide)]; exact v3, by rw [fB 2 (by decide) (by decide)]; exact v4, by rw [fB 3 (by decide) (by decide)]; exact v5, by rw [fB 4 (by decide) (by decide)]; exact v6, by rw [fB 5 (by decide) (by decide)]; exact v7, by rw [fA]; exact hf1.2, by rw [fA]; exact hv0, ?_, by rw [fB 9 (by decide) (by decide)]; exact v11, by rw [fB 10 (by decide) (by decide)]; exact v12, by rw [fB 9 (by decide) (by decide), fB 10 (by decide) (by decide)]; exact v13, by rw [fB 11 (by decide) (by decide)]; exact v14, by rw [fB 12 (by decide) (by decide)]; exact v15, fun i hi => by rw [fB 13 (by decide) (by decide)]; exact v16 i hi⟩
      rw [fA, f7, e9, e10]
      by_cases z : v < 0
      · rw [if_pos z]
        exact Or.inr ⟨by rw [Int32.lt_iff_toInt_lt] at z; omega, nI_0⟩
      · rw [if_neg z]
        rw [Int32.lt_iff_toInt_lt] at z
        by_cases z2 : 0 < v ∧ pT S u' 6 < 0
        · rw [if_pos z2]
          exact Or.inl ⟨by omega, by omega, v13⟩
        · rw [if_neg z2]
          refine Or.inl ⟨by omega, ?_⟩
          rcases v10 with q | q
          · exact q.2
          · exact absurd ⟨by rw [Int32.lt_iff_toInt_lt]; omega, by rw [Int32.lt_iff_toInt_lt]; omega⟩ z2
    · refine ⟨v1, by rw [fB 0 (by decide) (by decide)]; exact v2, by rw [fB 1 (by decide) (by decide)]; exact v3, by rw [fB 2 (by decide) (by decide)]; exact v4, by rw [fB 3 (by decide) (by decide)]; exact v5, by rw [fB 4 (by decide) (by decide)]; exact v6, by rw [fB 5 (by decide) (by decide)]; exact v7, by rw [fB 6 (by decide) (by decide)]; exact v8, by rw [fB 6 (by decide) (by decide)]; exact v9, ?_, by rw [fB 9 (by decide) (by decide)]; exact v11, by rw [fB 10 (by decide) (by decide)]; exact v12, by rw [fB 9 (by decide) (by decide), fB 10 (by decide) (by decide)]; exact v13, by rw [fB 11 (by decide) (by decide)]; exact v14, by rw [fB 12 (by decide) (by decide)]; exact v15, fun i hi => by rw [fB 13 (by decide) (by decide)]; exact v16 i hi⟩
      rw [fA, fB 6 (by decide) (by decide), fB 9 (by decide) (by decide), fB 10 (by decide) (by decide)]
      have hf1 : (if 0 < pT S u' 6 then inW (pT S u' 9) (pT S u' 10) v else decide (v = 0)) = true := hf
      have z0 : (0 : Int32).toInt = 0 := rfl
      by_cases z : 0 < pT S u' 6
      · rw [if_pos z] at hf1
        unfold inW at hf1
        rw [Bool.and_eq_true, decide_eq_true_eq, decide_eq_true_eq, Int32.le_iff_toInt_le, Int32.le_iff_toInt_le] at hf1
        rw [Int32.lt_iff_toInt_lt] at z
        exact Or.inl ⟨by omega, hf1⟩
      · rw [if_neg z, decide_eq_true_eq] at hf1
        rw [Int32.lt_iff_toInt_lt] at z
        exact Or.inr ⟨by omega, hf1⟩
  · have fC : ∀ k', pT (setT S u k v) u' k' = pT S u' k' := by
      intro k'
      show (if u' = u then _ else _) = _
      rw [if_neg e]
    simp only [fC]
    exact ⟨v1, v2, v3, v4, v5, v6, v7, v8, v9, v10, v11, v12, v13, v14, v15, v16⟩
theorem w_setUnit {I : Nat → Nat → Int32} {R : RT} {A : AT} {x y v : Int32} {Q : Option Value → az_M → Prop} {Xs : String → az_M → Prop} (hC : CR A I)
    (hQ : ∀ I', CR (spSetU A x y v).2.2 I' → (∀ q j, 353 < q → I' q j = I q j) → fnC [eIX, eIA] Q Xs (spSetU A x y v) (K0, I', R)) : FX11_setUnit [.ref 0, .int x, .int y, .int v] (K0, I, R) Q Xs := by
  have hC0 := hC
  obtain ⟨hV, hS, hH, hsv, hT, st, hst, hout⟩ := hC
  have hUU := hV.2.2.2.1
  simp (disch := omega) only [s_ic, s_li, s_la, s_si, s_sa, s_inc, s_bin, s_un, s_dup, s_dup2, s_pop, s_if, s_if2, s_gi, s_gr, s_pi, s_pz, s_al, s_aa, s_as, s_az, s_ac, s_mx, s_mn, s_cpy, s_kp, s_ri, s_rz, s_rv, s_cv, s_cs, s_rem, s_div, az_gl, az_sl, az_kp, az_pop, az_fun, az_funX, az_pat, az_in, List.map, List.replicate, List.length, List.cons_append, List.nil_append, Option.toList, f_add, f_sub, f_mul, f_neg, c_eq, c_ne, c_lt, c_ge, c_gt, c_le, d_eq, d_ne, d_lt, d_ge, d_gt, d_le, vinT, nIclamp, nIadd, nImul, nIeq, nIle, nIlt, nIlt0, nIge0, nIgt0, nIle0, nIeq0, ltT, ltF, leT, leF, eqT, eqF, upS, upN, k_n, az_setI, az_setA, true_and, and_true, and_self, true_implies, false_implies, implies_true, not_true_eq_false, not_false_eq_true, Nat.add_zero, Nat.zero_add, Nat.reduceAdd, Nat.reduceSub, Nat.reduceMul, Nat.reduceLT, Nat.reduceLeDiff, Nat.reduceEqDiff, Nat.reducePow, reduceIte, ne_eq, false_and, and_false, exists_eq_left', or_true, true_or, or_false, false_or, nI1one, nI0one, bI0, bI1, bIor, bI_z, bI_1, Bool.not_eq_true, Bool.not_eq_false, Bool.true_eq_false, Bool.false_eq_true, FX11_setUnit, PX11_setUnit, LX11_setUnit_18, e_isUnit hS, e_within, s_thr, k_s_0, k_f_0_0, k_f_0_1, k_f_0_2, k_f_0_3, k_f_0_4, k_f_0_5, k_f_0_6, k_f_0_7, k_s_47, k_f_47_0, k_s_48, k_r_48, k_s_233, k_f_233_0, k_f_233_1, k_f_233_2, k_f_233_3, k_f_233_4, k_f_233_5, k_f_233_6, k_f_233_7, k_f_233_8, k_f_233_9, k_s_234, k_f_234_0, k_f_234_1, k_f_234_2, k_s_235, k_s_236, k_s_237, k_s_238, k_f_238_0, k_f_238_1, k_f_238_2, k_s_239, k_s_240, k_r_240, k_t_240, k_s_247, k_r_247, k_t_247, k_s_254, k_f_254_0, k_f_254_1, k_f_254_2, k_s_255, k_r_255, k_t_255, k_s_260, k_r_260, k_t_260, k_s_265, k_r_265, k_t_265, k_s_290, k_r_290, k_t_290, k_s_297, k_r_297, k_t_297, k_s_304, k_r_304, k_t_304, k_s_311, k_r_311, k_t_311, k_s_318, k_r_318, k_t_318, k_s_325, k_r_325, k_t_325, k_s_339, k_s_340, k_f_340_0, k_f_340_1, k_f_340_2, k_f_340_3, k_s_341, k_s_342, k_s_343, k_s_344, k_s_345, k_f_345_0, k_f_345_1, k_s_346, k_s_347, k_s_348, k_f_348_0, k_f_348_1, k_f_348_2, k_s_349, k_s_350, k_s_351, k_s_352, k_f_352_0, k_s_353, k_s_1, k_s_2, k_s_9, k_s_16, k_s_21, k_s_22, k_s_23, k_f_1_5, k_f_1_6, k_f_1_7, k_f_1_8, k_f_1_9, k_f_1_10, k_r_2, k_t_2, k_r_9, k_t_9, k_r_16, k_t_16]
  unfold spSetU at hQ
  have t1 := hQ I
  refine ⟨fun e => ?_, fun e1 => ⟨fun e2 => ?_, fun e2 => ?_⟩⟩
  · rw [if_pos (Or.inl e)] at t1; exact t1 hC0 (fun _ _ _ => rfl)
  · rw [if_neg (by rw [e1, e2]; simp)] at hQ t1
    obtain ⟨u, hu, rfl⟩ := isB_t (by omega) e1
    obtain ⟨k, -, hk, rfl⟩ := inW_t (by omega) (by omega) e2
    unfold iN at hQ t1
    rw [nI_clamp (by omega), nI_clamp (by omega)] at hQ t1
    simp (disch := omega) only [s_ic, s_li, s_la, s_si, s_sa, s_inc, s_bin, s_un, s_dup, s_dup2, s_pop, s_if, s_if2, s_gi, s_gr, s_pi, s_pz, s_al, s_aa, s_as, s_az, s_ac, s_mx, s_mn, s_cpy, s_kp, s_ri, s_rz, s_rv, s_cv, s_cs, s_rem, s_div, az_gl, az_sl, az_kp, az_pop, az_fun, az_funX, az_pat, az_in, List.map, List.replicate, List.length, List.cons_append, List.nil_append, Option.toList, f_add, f_sub, f_mul, f_neg, c_eq, c_ne, c_lt, c_ge, c_gt, c_le, d_eq, d_ne, d_lt, d_ge, d_gt, d_le, vinT, nIclamp, nIadd, nImul, nIeq, nIle, nIlt, nIlt0, nIge0, nIgt0, nIle0, nIeq0, ltT, ltF, leT, leF, eqT, eqF, upS, upN, k_n, az_setI, az_setA, true_and, and_true, and_self, true_implies, false_implies, implies_true, not_true_eq_false, not_false_eq_true, Nat.add_zero, Nat.zero_add, Nat.reduceAdd, Nat.reduceSub, Nat.reduceMul, Nat.reduceLT, Nat.reduceLeDiff, Nat.reduceEqDiff, Nat.reducePow, reduceIte, ne_eq, false_and, and_false, exists_eq_left', or_true, true_or, or_false, false_or, nI1one, nI0one, bI0, bI1, bIor, bI_z, bI_1, Bool.not_eq_true, Bool.not_eq_false, Bool.true_eq_false, Bool.false_eq_true, e_fitsTerm hV hS hu (show k < 8 by omega), k_s_0, k_f_0_0, k_f_0_1, k_f_0_2, k_f_0_3, k_f_0_4, k_f_0_5, k_f_0_6, k_f_0_7, k_s_47, k_f_47_0, k_s_48, k_r_48, k_s_233, k_f_233_0, k_f_233_1, k_f_233_2, k_f_233_3, k_f_233_4, k_f_233_5, k_f_233_6, k_f_233_7, k_f_233_8, k_f_233_9, k_s_234, k_f_234_0, k_f_234_1, k_f_234_2, k_s_235, k_s_236, k_s_237, k_s_238, k_f_238_0, k_f_238_1, k_f_238_2, k_s_239, k_s_240, k_r_240, k_t_240, k_s_247, k_r_247, k_t_247, k_s_254, k_f_254_0, k_f_254_1, k_f_254_2, k_s_255, k_r_255, k_t_255, k_s_260, k_r_260, k_t_260, k_s_265, k_r_265, k_t_265, k_s_290, k_r_290, k_t_290, k_s_297, k_r_297, k_t_297, k_s_304, k_r_304, k_t_304, k_s_311, k_r_311, k_t_311, k_s_318, k_r_318, k_t_318, k_s_325, k_r_325, k_t_325, k_s_339, k_s_340, k_f_340_0, k_f_340_1, k_f_340_2, k_f_340_3, k_s_341, k_s_342, k_s_343, k_s_344, k_s_345, k_f_345_0, k_f_345_1, k_s_346, k_s_347, k_s_348, k_f_348_0, k_f_348_1, k_f_348_2, k_s_349, k_s_350, k_s_351, k_s_352, k_f_352_0, k_s_353, k_s_1, k_s_2, k_s_9, k_s_16, k_s_21, k_s_22, k_s_23, k_f_1_5, k_f_1_6, k_f_1_7, k_f_1_8, k_f_1_9, k_f_1_10, k_r_2, k_t_2, k_r_9, k_t_9, k_r_16, k_t_16]
    refine ⟨fun e3 => ?_, fun e3 => ?_⟩
    · rw [if_neg (by rw [e3]; simp)] at hQ
      clear t1
      refine w_beginChange hV hS hH (fun I1 a1 a2 a3 => ?_)
      have hS1 := CS_frame (I' := I1) hV.2.2.2.1 hV.2.2.2.2.1 hS (fun a j _ _ => a3 _ _ (by omega) (by omega))
      have ck : I1 (3 + u) k = pT A.1 u k := hS1.2.2.2.2.2.1 u k hu (by omega) (by omega)
      have c9 : I1 (3 + u) 9 = pT A.1 u 9 := hS1.2.2.2.2.2.1 u 9 hu (by omega) (by omega)
      have fin : ∀ I2, (∀ k', k' < 14 → k' ≠ 8 → I2 (3 + u) k' = pT (setT A.1 u k v) u k') → I2 (3 + u) 8 = I1 (3 + u) 8 → (∀ q j, q ≠ 3 + u → I2 q j = I1 q j) → Q (some (.int (pT A.1 u k))) (K0, I2, R) := by
        intro I2 d1 d2 d3
        refine hQ _ (CR_chg hC0 (HR_frame a1 (fun q j _ _ => d3 _ _ (by omega))) (by rw [d3 _ _ (by omega)]; exact a2) (fun q j z => by rw [d3 _ _ (by omega), a3 _ _ (by omega) (by omega)]) (VS_setT hV hu (by omega) e3) ?_) (fun q j z => by rw [d3 _ _ (by omega), a3 _ _ (by omega) (by omega)])
        obtain ⟨s1, s2, s3, s4, s5, s6, s7, s8, s9, s10, s11, s12, s13, s14⟩ := hS1
        have hOO := hV.2.2.2.2.1
        refine ⟨?_, ?_, ?_, ?_, ?_, ?_, ?_, ?_, ?_, ?_, ?_, ?_, ?_, ?_⟩
        · rw [d3 _ _ (by omega)]; exact s1
        · rw [d3 _ _ (by omega)]; exact s2
        · rw [d3 _ _ (by omega)]; exact s3
        · rw [d3 _ _ (by omega)]; exact s4
        · rw [d3 _ _ (by omega)]; exact s5
        · intro u' k' hu' hk1 hk8
          by_cases e : u' = u
          · subst e; exact d1 k' hk1 hk8
          · have fC : pT (setT A.1 u k v) u' k' = pT A.1 u' k' := by
              show (if u' = u then _ else _) = _
              rw [if_neg e]
            rw [fC]
            have hu2 : u' < pU A.1 := hu'
            rw [show (1 + 2 + u' : Nat) = 3 + u' by omega, d3 _ _ (by omega)]; exact s6 u' k' hu' hk1 hk8
        · intro u' hu'
          have hu2 : u' < pU A.1 := hu'
          by_cases e : u' = u
          · subst e
            rw [show (1 + 2 + u' : Nat) = 3 + u' by omega, d2]; exact s7 u' hu2
          · rw [show (1 + 2 + u' : Nat) = 3 + u' by omega, d3 _ _ (by omega)]; exact s7 u' hu2
        · intro o ho; have ho' : o < pO A.1 := ho; rw [d3 _ _ (by omega)]; exact s8 o ho'
        · intro o ho; have ho' : o < pO A.1 := ho; rw [d3 _ _ (by omega)]; exact s9 o ho'
        · intro o ho; have ho' : o < pO A.1 := ho; rw [d3 _ _ (by omega)]; exact s10 o ho'
        · intro c h hc hh; rw [d3 _ _ (by omega)]; exact s11 c h hc hh
        · intro h hh; rw [d3 _ _ (by omega)]; exact s12 h hh
        · intro c q1 q2; rw [d3 _ _ (by omega)]; exact s13 c q1 q2
        · intro c q1 q2; rw [d3 _ _ (by omega)]; exact s14 c q1 q2
      clear hQ
      have s6 := hS1.2.2.2.2.2.1
      have fA : pT (setT A.1 u k v) u k = v := by
        show (if u = u then _ else _) = _
        rw [if_pos rfl, if_pos rfl]
      have fB : ∀ k', k' ≠ k → ¬ (k' = 7 ∧ k = 6) → pT (setT A.1 u k v) u k' = pT A.1 u k' := by
        intro k' h1 h2
        show (if u = u then _ else _) = _
        rw [if_pos rfl, if_neg h1, if_neg (fun z => h2 ⟨z.1, z.2.1⟩), if_neg (fun z => h2 ⟨z.1, z.2.1⟩)]
      by_cases e6 : k = 6
      · subst e6
        have f7 : pT (setT A.1 u 6 v) u 7 = if v < 0 then nI 0 else if 0 < v ∧ pT A.1 u 6 < 0 then pT A.1 u 9 else pT A.1 u 7 := by
          show (if u = u then _ else _) = _
          rw [if_pos rfl, if_neg (by decide)]
          by_cases z : v < 0
          · rw [if_pos ⟨rfl, rfl, z⟩, if_pos z]
          · rw [if_neg (fun q => z q.2.2), if_neg z]
            by_cases z2 : 0 < v ∧ pT A.1 u 6 < 0
            · rw [if_pos ⟨rfl, rfl, z2⟩, if_pos z2]
            · rw [if_neg (fun q => z2 q.2.2), if_neg z2]
        simp (disch := omega) only [s_ic, s_li, s_la, s_si, s_sa, s_inc, s_bin, s_un, s_dup, s_dup2, s_pop, s_if, s_if2, s_gi, s_gr, s_pi, s_pz, s_al, s_aa, s_as, s_az, s_ac, s_mx, s_mn, s_cpy, s_kp, s_ri, s_rz, s_rv, s_cv, s_cs, s_rem, s_div, az_gl, az_sl, az_kp, az_pop, az_fun, az_funX, az_pat, az_in, List.map, List.replicate, List.length, List.cons_append, List.nil_append, Option.toList, f_add, f_sub, f_mul, f_neg, c_eq, c_ne, c_lt, c_ge, c_gt, c_le, d_eq, d_ne, d_lt, d_ge, d_gt, d_le, vinT, nIclamp, nIadd, nImul, nIeq, nIle, nIlt, nIlt0, nIge0, nIgt0, nIle0, nIeq0, ltT, ltF, leT, leF, eqT, eqF, upS, upN, k_n, az_setI, az_setA, true_and, and_true, and_self, true_implies, false_implies, implies_true, not_true_eq_false, not_false_eq_true, Nat.add_zero, Nat.zero_add, Nat.reduceAdd, Nat.reduceSub, Nat.reduceMul, Nat.reduceLT, Nat.reduceLeDiff, Nat.reduceEqDiff, Nat.reducePow, reduceIte, ne_eq, false_and, and_false, exists_eq_left', or_true, true_or, or_false, false_or, nI1one, nI0one, bI0, bI1, bIor, bI_z, bI_1, Bool.not_eq_true, Bool.not_eq_false, Bool.true_eq_false, Bool.false_eq_true, ck, LX11_setUnit_93, LX11_setUnit_118, k_s_0, k_f_0_0, k_f_0_1, k_f_0_2, k_f_0_3, k_f_0_4, k_f_0_5, k_f_0_6, k_f_0_7, k_s_47, k_f_47_0, k_s_48, k_r_48, k_s_233, k_f_233_0, k_f_233_1, k_f_233_2, k_f_233_3, k_f_233_4, k_f_233_5, k_f_233_6, k_f_233_7, k_f_233_8, k_f_233_9, k_s_234, k_f_234_0, k_f_234_1, k_f_234_2, k_s_235, k_s_236, k_s_237, k_s_238, k_f_238_0, k_f_238_1, k_f_238_2, k_s_239, k_s_240, k_r_240, k_t_240, k_s_247, k_r_247, k_t_247, k_s_254, k_f_254_0, k_f_254_1, k_f_254_2, k_s_255, k_r_255, k_t_255, k_s_260, k_r_260, k_t_260, k_s_265, k_r_265, k_t_265, k_s_290, k_r_290, k_t_290, k_s_297, k_r_297, k_t_297, k_s_304, k_r_304, k_t_304, k_s_311, k_r_311, k_t_311, k_s_318, k_r_318, k_t_318, k_s_325, k_r_325, k_t_325, k_s_339, k_s_340, k_f_340_0, k_f_340_1, k_f_340_2, k_f_340_3, k_s_341, k_s_342, k_s_343, k_s_344, k_s_345, k_f_345_0, k_f_345_1, k_s_346, k_s_347, k_s_348, k_f_348_0, k_f_348_1, k_f_348_2, k_s_349, k_s_350, k_s_351, k_s_352, k_f_352_0, k_s_353, k_s_1, k_s_2, k_s_9, k_s_16, k_s_21, k_s_22, k_s_23, k_f_1_5, k_f_1_6, k_f_1_7, k_f_1_8, k_f_1_9, k_f_1_10, k_r_2, k_t_2, k_r_9, k_t_9, k_r_16, k_t_16]
        have ng : ∀ x : Int32, 0 ≤ x ↔ ¬ x < 0 := fun x => ⟨Int32.not_lt.mpr, Int32.not_lt.mp⟩
        have base : ∀ (w : Int32) (I2 : Nat → Nat → Int32), (I2 = az_up I1 (3 + u) 6 v ∧ w = pT A.1 u 7 ∨ I2 = az_up (az_up I1 (3 + u) 6 v) (3 + u) 7 w) → w = pT (setT A.1 u 6 v) u 7 → Q (some (.int (pT A.1 u 6))) (K0, I2, R) := by
          intro w I2 h1 h2
          refine fin I2 (fun k' z1 z2 => ?_) ?_ (fun q j z => ?_)
          · rcases h1 with ⟨h1, h3⟩ | h1
            · rw [h1]
              by_cases z6 : k' = 6
              · rw [z6, fA, upS ⟨rfl, rfl⟩]
              · rw [upN (by omega)]
                by_cases z7 : k' = 7
                · rw [z7, ← h2, h3]; exact s6 u 7 hu (by omega) (by omega)
                · rw [fB k' z6 (fun q => z7 q.1)]; exact s6 u k' hu z1 z2
            · rw [h1]
              by_cases z7 : k' = 7
              · rw [z7, upS ⟨rfl, rfl⟩]; exact h2
              · rw [upN (by omega)]
                by_cases z6 : k' = 6
                · rw [z6, fA, upS ⟨rfl, rfl⟩]
                · rw [upN (by omega), fB k' z6 (fun q => z7 q.1)]; exact s6 u k' hu z1 z2
          · rcases h1 with ⟨h1, h3⟩ | h1
            · rw [h1, upN (by omega)]
            · rw [h1, upN (by omega), upN (by omega)]
          · rcases h1 with ⟨h1, h3⟩ | h1
            · rw [h1, upN (by omega)]
            · rw [h1, upN (by omega), upN (by omega)]
        have c9' : I1 (3 + u) 9 = pT A.1 u 9 := c9
        refine ⟨fun q1 => ⟨fun q2 => base _ _ (Or.inl ⟨rfl, rfl⟩) ?_, fun q2 => ⟨fun q3 => base _ _ (Or.inl ⟨rfl, rfl⟩) ?_, fun q3 => base _ _ (Or.inr rfl) ?_⟩⟩, fun q1 => ⟨fun q2 => base _ _ (Or.inr rfl) ?_, fun q2 => absurd (Int32.le_of_lt (Int32.not_le.mp q1)) q2⟩⟩
        · rw [f7, if_neg (Int32.not_lt.mpr q1), if_neg (fun z => absurd z.1 (Int32.not_lt.mpr q2))]
        · rw [f7, if_neg (Int32.not_lt.mpr q1), if_neg (fun z => absurd z.2 (Int32.not_lt.mpr q3))]
        · rw [f7, if_neg (Int32.not_lt.mpr q1), if_pos ⟨Int32.not_le.mp q2, Int32.not_le.mp q3⟩]; exact c9'
        · rw [f7, if_pos (Int32.not_le.mp q1)]
      · simp (disch := omega) only [s_ic, s_li, s_la, s_si, s_sa, s_inc, s_bin, s_un, s_dup, s_dup2, s_pop, s_if, s_if2, s_gi, s_gr, s_pi, s_pz, s_al, s_aa, s_as, s_az, s_ac, s_mx, s_mn, s_cpy, s_kp, s_ri, s_rz, s_rv, s_cv, s_cs, s_rem, s_div, az_gl, az_sl, az_kp, az_pop, az_fun, az_funX, az_pat, az_in, List.map, List.replicate, List.length, List.cons_append, List.nil_append, Option.toList, f_add, f_sub, f_mul, f_neg, c_eq, c_ne, c_lt, c_ge, c_gt, c_le, d_eq, d_ne, d_lt, d_ge, d_gt, d_le, vinT, nIclamp, nIadd, nImul, nIeq, nIle, nIlt, nIlt0, nIge0, nIgt0, nIle0, nIeq0, ltT, ltF, leT, leF, eqT, eqF, upS, upN, k_n, az_setI, az_setA, true_and, and_true, and_self, true_implies, false_implies, implies_true, not_true_eq_false, not_false_eq_true, Nat.add_zero, Nat.zero_add, Nat.reduceAdd, Nat.reduceSub, Nat.reduceMul, Nat.reduceLT, Nat.reduceLeDiff, Nat.reduceEqDiff, Nat.reducePow, reduceIte, ne_eq, false_and, and_false, exists_eq_left', or_true, true_or, or_false, false_or, nI1one, nI0one, bI0, bI1, bIor, bI_z, bI_1, Bool.not_eq_true, Bool.not_eq_false, Bool.true_eq_false, Bool.false_eq_true, ck, e6, LX11_setUnit_93, LX11_setUnit_118, k_s_0, k_f_0_0, k_f_0_1, k_f_0_2, k_f_0_3, k_f_0_4, k_f_0_5, k_f_0_6, k_f_0_7, k_s_47, k_f_47_0, k_s_48, k_r_48, k_s_233, k_f_233_0, k_f_233_1, k_f_233_2, k_f_233_3, k_f_233_4, k_f_233_5, k_f_233_6, k_f_233_7, k_f_233_8, k_f_233_9, k_s_234, k_f_234_0, k_f_234_1, k_f_234_2, k_s_235, k_s_236, k_s_237, k_s_238, k_f_238_0, k_f_238_1, k_f_238_2, k_s_239, k_s_240, k_r_240, k_t_240, k_s_247, k_r_247, k_t_247, k_s_254, k_f_254_0, k_f_254_1, k_f_254_2, k_s_255, k_r_255, k_t_255, k_s_260, k_r_260, k_t_260, k_s_265, k_r_265, k_t_265, k_s_290, k_r_290, k_t_290, k_s_297, k_r_297, k_t_297, k_s_304, k_r_304, k_t_304, k_s_311, k_r_311, k_t_311, k_s_318, k_r_318, k_t_318, k_s_325, k_r_325, k_t_325, k_s_339, k_s_340, k_f_340_0, k_f_340_1, k_f_340_2, k_f_340_3, k_s_341, k_s_342, k_s_343, k_s_344, k_s_345, k_f_345_0, k_f_345_1, k_s_346, k_s_347, k_s_348, k_f_348_0, k_f_348_1, k_f_348_2, k_s_349, k_s_350, k_s_351, k_s_352, k_f_352_0, k_s_353, k_s_1, k_s_2, k_s_9, k_s_16, k_s_21, k_s_22, k_s_23, k_f_1_5, k_f_1_6, k_f_1_7, k_f_1_8, k_f_1_9, k_f_1_10, k_r_2, k_t_2, k_r_9, k_t_9, k_r_16, k_t_16]
        refine fin _ (fun k' z1 z2 => ?_) (by rw [upN (by omega)]) (fun q j z => by rw [upN (by omega)])
        by_cases z : k' = k
        · rw [z, fA, upS ⟨rfl, rfl⟩]
        · rw [upN (by omega), fB k' z (fun q => e6 q.2)]; exact s6 u k' hu z1 z2
    · rw [if_pos e3] at t1; exact t1 hC0 (fun _ _ _ => rfl)
  · rw [if_pos (Or.inr e2)] at t1; exact t1 hC0 (fun _ _ _ => rfl)
