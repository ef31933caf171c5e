set_option maxRecDepth 100000
set_option maxHeartbeats 2000000
abbrev eUO : String := "java/lang/UnsupportedOperationException"
/-- the first place below n that does not fit, or n -/
def erF (T : Nat → Nat) (H : Nat) : Nat → Nat
  | 0 => 0
  | n + 1 => if erF T H n < n then erF T H n else if wfB T H n = true then n + 1 else n
theorem erF_le {T : Nat → Nat} {H : Nat} : ∀ n, erF T H n ≤ n
  | 0 => Nat.le_refl _
  | n + 1 => by
    have := erF_le (T := T) (H := H) n
    unfold erF
    split
    · omega
    · split <;> omega
theorem erF_all {T : Nat → Nat} {H : Nat} : ∀ {n : Nat}, (∀ j, j < n → wfB T H j = true) → erF T H n = n
  | 0, _ => rfl
  | n + 1, h => by
    unfold erF
    rw [erF_all (fun j hj => h j (by omega)), if_neg (by omega), if_pos (h n (by omega))]
theorem erF_at {T : Nat → Nat} {H i : Nat} (hi : ∀ j, j < i → wfB T H j = true) (hn : wfB T H i = false) : ∀ {n : Nat}, i < n → erF T H n = i
  | 0, h => absurd h (Nat.not_lt_zero _)
  | n + 1, h => by
    unfold erF
    by_cases e : i = n
    · subst e
      rw [erF_all hi, if_neg (by omega), if_neg (by rw [hn]; decide)]
    · rw [erF_at hi hn (n := n) (by omega), if_pos (by omega)]
theorem erF_wf {T : Nat → Nat} {H : Nat} : ∀ {n : Nat}, ¬ erF T H n < n → ∀ j, j < n → wfB T H j = true
  | 0, _, j, hj => absurd hj (Nat.not_lt_zero _)
  | n + 1, h, j, hj => by
    have hle := erF_le (T := T) (H := H) n
    unfold erF at h
    by_cases e : erF T H n < n
    · rw [if_pos e] at h; omega
    · rw [if_neg e] at h
      by_cases e2 : wfB T H n = true
      · by_cases e3 : j = n
        · rw [e3]; exact e2
        · exact erF_wf e j (by omega)
      · rw [if_neg e2] at h; omega
/-- all rows name units of the planner -/
def knB (T : Nat → Nat) (H U : Nat) : Nat → Bool
  | 0 => true
  | r + 1 => knB T H U r && decide (T (r * (H + 3)) < 48 + U)
theorem knB_t {T : Nat → Nat} {H U : Nat} : ∀ {r : Nat}, knB T H U r = true → ∀ i, i < r → T (i * (H + 3)) < 48 + U
  | 0, _, i, hi => absurd hi (Nat.not_lt_zero _)
  | r + 1, h, i, hi => by
    unfold knB at h
    rw [Bool.and_eq_true, decide_eq_true_eq] at h
    by_cases e : i = r
    · rw [e]; exact h.2
    · exact knB_t h.1 i (by omega)
theorem gu_kn {T : Nat → Nat} {H : Nat} : ∀ {r : Nat}, (∀ i, i < r → 48 ≤ T (i * (H + 3)) ∧ T (i * (H + 3)) ≤ 53) → ∃ m, m ≤ 5 ∧ guF T H r = nI m ∧ ∀ U, 1 ≤ U → (knB T H U r = true ↔ m < U)
  | 0, _ => ⟨0, by omega, rfl, fun U hU => ⟨fun _ => by omega, fun _ => rfl⟩⟩
  | r + 1, h => by
    obtain ⟨m, m1, m2, m3⟩ := gu_kn (r := r) (fun i hi => h i (by omega))
    have hr := h r (by omega)
    have hst : guF T H (r + 1) = mxI (guF T H r) (nI (T (r * (H + 3))) - nI 48) := rfl
    rw [m2, nIsub (by omega)] at hst
    have hk : ∀ U, knB T H U (r + 1) = (knB T H U r && decide (T (r * (H + 3)) < 48 + U)) := fun _ => rfl
    unfold mxI at hst
    by_cases e : m < T (r * (H + 3)) - 48
    · rw [if_pos (by rw [nIlt ⟨by omega, by omega⟩]; exact e)] at hst
      refine ⟨_, by omega, hst, fun U hU => ?_⟩
      rw [hk, Bool.and_eq_true, m3 U hU, decide_eq_true_eq]
      omega
    · rw [if_neg (by rw [nIlt ⟨by omega, by omega⟩]; exact e)] at hst
      refine ⟨_, by omega, hst, fun U hU => ?_⟩
      rw [hk, Bool.and_eq_true, m3 U hU, decide_eq_true_eq]
      omega
def spRead (A : AT) : ST :=
  if erF A.2.2.2.1 (pH A.1) A.2.2.2.2.1 < A.2.2.2.2.1 ∨ A.2.2.2.2.1 % (pH A.1 + 3) ≠ pH A.1 + 2 then (1, nI 0, (A.1, A.2.1, A.2.2.1, A.2.2.2.1, 0, nI (erF A.2.2.2.1 (pH A.1) A.2.2.2.2.1)))
  else if knB A.2.2.2.1 (pH A.1) (pU A.1) (txR (pH A.1) A.2.2.2.2.1) = false then (2, nI 0, (A.1, A.2.1, A.2.2.1, A.2.2.2.1, 0, A.2.2.2.2.2))
  else (0, nI (txR (pH A.1) A.2.2.2.2.1), (setP A.1 (twP A.1 A.2.2.2.1 (txR (pH A.1) A.2.2.2.2.1)), puH A.1 A.2.1, A.2.2.1, A.2.2.2.1, 0, A.2.2.2.2.2))
theorem CR_txt {I I' : Nat → Nat → Int32} {A : AT} {T : Nat → Nat} {n : Nat} {e : Int32} (hC : CR A I) (hX : XT T n e I') (hf : ∀ q j, q < 352 ∨ 353 < q → I' q j = I q j) : CR (A.1, A.2.1, A.2.2.1, T, n, e) I' := by
  obtain ⟨hV, hS, hH, hsv, hT, st, hst, hout⟩ := hC
  refine ⟨hV, CS_frame hV.2.2.2.1 hV.2.2.2.2.1 hS (fun q j _ _ => hf _ _ (by omega)), HR_frame hH (fun q j _ _ => hf _ _ (by omega)), ⟨by rw [hf _ _ (by omega)]; exact hsv.1, fun V hVV => ⟨(hsv.2 V hVV).1, CS_frame (hsv.2 V hVV).1.2.2.2.1 (hsv.2 V hVV).1.2.2.2.2.1 (hsv.2 V hVV).2 (fun a j _ _ => hf _ _ (by omega))⟩⟩, hX, st, by rw [hf _ _ (by omega)]; exact hst, fun z => ?_⟩
  obtain ⟨o1, o2, o3⟩ := hout z
  exact ⟨⟨fun o ho => by rw [hf _ _ (by omega)]; exact o1.1 o ho, fun o ho => by rw [hf _ _ (by omega)]; exact o1.2.1 o ho, fun h hh => by rw [hf _ _ (by omega)]; exact o1.2.2 h hh⟩, OI_frame hV.2.2.2.1 hV.2.1.2 o2 hV.1.2 (fun q h _ _ _ _ => hf _ _ (by omega)) (fun h j hh => hf _ _ (by have hh' : h < pH A.1 := hh; have := hV.1.2; omega)), VI_frame o3 (fun q j _ _ => hf _ _ (by omega))⟩
theorem VS_setP {S : PS} {pl : Nat → Int32} (hV : VS S) (hp : ∀ u, u < pU S → ∀ i, pH S ≤ i → bt (pl u) i = false) : VS (setP S pl) := by
  refine ⟨hV.1, hV.2.1, hV.2.2.1, hV.2.2.2.1, hV.2.2.2.2.1, fun u hu => ?_, hV.2.2.2.2.2.2⟩
  obtain ⟨v1, v2, v3, v4, v5, v6, v7, v8, v9, v10, v11, v12, v13, v14, v15, v16⟩ := hV.2.2.2.2.2.1 u hu
  exact ⟨v1, v2, v3, v4, v5, v6, v7, v8, v9, v10, v11, v12, v13, v14, v15, hp u hu⟩
theorem mkM_hi {p : Nat → Bool} {H i : Nat} (hH : H ≤ 24) (hi : H ≤ i) : bt (mkM p H) i = false := by
  rcases Nat.lt_or_ge i 32 with q | q
  · rw [b_mkM (by omega) q, decide_eq_false (by omega)]; rfl
  · exact b_big q
theorem twP_hi {S : PS} {T : Nat → Nat} (hV : VS S) : ∀ r u, u < pU S → ∀ i, pH S ≤ i → bt (twP S T r u) i = false
  | 0, u, hu, i, hi => (hV.2.2.2.2.2.1 u hu).2.2.2.2.2.2.2.2.2.2.2.2.2.2.2 i hi
  | r + 1, u, hu, i, hi => by
    unfold twP
    split
    · exact mkM_hi hV.1.2 hi
    · exact twP_hi hV r u hu i hi
theorem w_readPlan {I : Nat → Nat → Int32} {R : RT} {A : AT} {Q : Option Value → az_M → Prop} {Xs : String → az_M → Prop} (hC : CR A I)
    (hQ : ∀ I', CR (spRead A).2.2 I' → (∀ q j, 353 < q → I' q j = I q j) → fnC [eIA, eUO] Q Xs (spRead A) (K0, I', R)) : FX11_readPlan [.ref 0] (K0, I, R) Q Xs := by
  have hC0 := hC
  obtain ⟨hV, hS, hH, hsv, hT, st, hst, hout⟩ := hC
  obtain ⟨S, P, sv, T, n, e⟩ := A
  have hHH := hV.1.2
  have hT0 : XT T n e I := hT
  have hS0 : CS 1 S I := hS
  have hV0 : VS S := hV
  unfold spRead at hQ
  dsimp only at hQ
  simp (disch := omega) only [s_ic, s_li, s_la, s_si, s_sa, s_inc, s_bin, s_un, s_dup, s_dup2, s_pop, s_if, s_if2, s_gi, s_gr, s_pi, s_pz, s_al, s_aa, s_as, s_az, s_ac, s_mx, s_mn, s_cpy, s_kp, s_ri, s_rz, s_rv, s_cv, s_cs, s_rem, s_div, az_gl, az_sl, az_kp, az_pop, az_fun, az_funX, az_pat, az_in, List.map, List.replicate, List.length, List.cons_append, List.nil_append, Option.toList, f_add, f_sub, f_mul, f_neg, c_eq, c_ne, c_lt, c_ge, c_gt, c_le, d_eq, d_ne, d_lt, d_ge, d_gt, d_le, vinT, nIclamp, nIadd, nImul, nIeq, nIle, nIlt, nIlt0, nIge0, nIgt0, nIle0, nIeq0, ltT, ltF, leT, leF, eqT, eqF, upS, upN, k_n, az_setI, az_setA, true_and, and_true, and_self, true_implies, false_implies, implies_true, not_true_eq_false, not_false_eq_true, Nat.add_zero, Nat.zero_add, Nat.reduceAdd, Nat.reduceSub, Nat.reduceMul, Nat.reduceLT, Nat.reduceLeDiff, Nat.reduceEqDiff, Nat.reducePow, reduceIte, ne_eq, false_and, and_false, exists_eq_left', or_true, true_or, or_false, false_or, nI1one, nI0one, bI0, bI1, bIor, bI_z, bI_1, Bool.not_eq_true, Bool.not_eq_false, Bool.true_eq_false, Bool.false_eq_true, FX11_readPlan, PX11_readPlan, hS.1, k_s_0, k_f_0_0, k_f_0_1, k_f_0_2, k_f_0_3, k_f_0_4, k_f_0_5, k_f_0_6, k_f_0_7, k_s_47, k_f_47_0, k_s_48, k_r_48, k_s_233, k_f_233_0, k_f_233_1, k_f_233_2, k_f_233_3, k_f_233_4, k_f_233_5, k_f_233_6, k_f_233_7, k_f_233_8, k_f_233_9, k_s_234, k_f_234_0, k_f_234_1, k_f_234_2, k_s_235, k_s_236, k_s_237, k_s_238, k_f_238_0, k_f_238_1, k_f_238_2, k_s_239, k_s_240, k_r_240, k_t_240, k_s_247, k_r_247, k_t_247, k_s_254, k_f_254_0, k_f_254_1, k_f_254_2, k_s_255, k_r_255, k_t_255, k_s_260, k_r_260, k_t_260, k_s_265, k_r_265, k_t_265, k_s_290, k_r_290, k_t_290, k_s_297, k_r_297, k_t_297, k_s_304, k_r_304, k_t_304, k_s_311, k_r_311, k_t_311, k_s_318, k_r_318, k_t_318, k_s_325, k_r_325, k_t_325, k_s_339, k_s_340, k_f_340_0, k_f_340_1, k_f_340_2, k_f_340_3, k_s_341, k_s_342, k_s_343, k_s_344, k_s_345, k_f_345_0, k_f_345_1, k_s_346, k_s_347, k_s_348, k_f_348_0, k_f_348_1, k_f_348_2, k_s_349, k_s_350, k_s_351, k_s_352, k_f_352_0, k_s_353, k_s_1, k_s_2, k_s_9, k_s_16, k_s_21, k_s_22, k_s_23, k_f_1_5, k_f_1_6, k_f_1_7, k_f_1_8, k_f_1_9, k_f_1_10, k_r_2, k_t_2, k_r_9, k_t_9, k_r_16, k_t_16]
  refine w_isWellFormed hT hHH (fun i hi h1 h2 => ?_) (fun h1 h2 => ?_) (fun h1 h2 => ?_)
  · simp (disch := omega) only [s_ic, s_li, s_la, s_si, s_sa, s_inc, s_bin, s_un, s_dup, s_dup2, s_pop, s_if, s_if2, s_gi, s_gr, s_pi, s_pz, s_al, s_aa, s_as, s_az, s_ac, s_mx, s_mn, s_cpy, s_kp, s_ri, s_rz, s_rv, s_cv, s_cs, s_rem, s_div, az_gl, az_sl, az_kp, az_pop, az_fun, az_funX, az_pat, az_in, List.map, List.replicate, List.length, List.cons_append, List.nil_append, Option.toList, f_add, f_sub, f_mul, f_neg, c_eq, c_ne, c_lt, c_ge, c_gt, c_le, d_eq, d_ne, d_lt, d_ge, d_gt, d_le, vinT, nIclamp, nIadd, nImul, nIeq, nIle, nIlt, nIlt0, nIge0, nIgt0, nIle0, nIeq0, ltT, ltF, leT, leF, eqT, eqF, upS, upN, k_n, az_setI, az_setA, true_and, and_true, and_self, true_implies, false_implies, implies_true, not_true_eq_false, not_false_eq_true, Nat.add_zero, Nat.zero_add, Nat.reduceAdd, Nat.reduceSub, Nat.reduceMul, Nat.reduceLT, Nat.reduceLeDiff, Nat.reduceEqDiff, Nat.reducePow, reduceIte, ne_eq, false_and, and_false, exists_eq_left', or_true, true_or, or_false, false_or, nI1one, nI0one, bI0, bI1, bIor, bI_z, bI_1, Bool.not_eq_true, Bool.not_eq_false, Bool.true_eq_false, Bool.false_eq_true, LX11_readPlan_47, LX11_readPlan_48, LX11_readPlan_71, LX11_readPlan_91, s_thr, k_s_0, k_f_0_0, k_f_0_1, k_f_0_2, k_f_0_3, k_f_0_4, k_f_0_5, k_f_0_6, k_f_0_7, k_s_47, k_f_47_0, k_s_48, k_r_48, k_s_233, k_f_233_0, k_f_233_1, k_f_233_2, k_f_233_3, k_f_233_4, k_f_233_5, k_f_233_6, k_f_233_7, k_f_233_8, k_f_233_9, k_s_234, k_f_234_0, k_f_234_1, k_f_234_2, k_s_235, k_s_236, k_s_237, k_s_238, k_f_238_0, k_f_238_1, k_f_238_2, k_s_239, k_s_240, k_r_240, k_t_240, k_s_247, k_r_247, k_t_247, k_s_254, k_f_254_0, k_f_254_1, k_f_254_2, k_s_255, k_r_255, k_t_255, k_s_260, k_r_260, k_t_260, k_s_265, k_r_265, k_t_265, k_s_290, k_r_290, k_t_290, k_s_297, k_r_297, k_t_297, k_s_304, k_r_304, k_t_304, k_s_311, k_r_311, k_t_311, k_s_318, k_r_318, k_t_318, k_s_325, k_r_325, k_t_325, k_s_339, k_s_340, k_f_340_0, k_f_340_1, k_f_340_2, k_f_340_3, k_s_341, k_s_342, k_s_343, k_s_344, k_s_345, k_f_345_0, k_f_345_1, k_s_346, k_s_347, k_s_348, k_f_348_0, k_f_348_1, k_f_348_2, k_s_349, k_s_350, k_s_351, k_s_352, k_f_352_0, k_s_353, k_s_1, k_s_2, k_s_9, k_s_16, k_s_21, k_s_22, k_s_23, k_f_1_5, k_f_1_6, k_f_1_7, k_f_1_8, k_f_1_9, k_f_1_10, k_r_2, k_t_2, k_r_9, k_t_9, k_r_16, k_t_16]
    rw [if_pos (Or.inl (by rw [erF_at h2 h1 hi]; exact hi)), erF_at h2 h1 hi] at hQ
    exact hQ _ (CR_txt hC0 ⟨Nat.zero_le _, by rw [upS ⟨rfl, rfl⟩], by rw [upN (by omega), upS ⟨rfl, rfl⟩], fun j hj => absurd hj (Nat.not_lt_zero _)⟩ (fun q j z => by rw [upN (by omega), upN (by omega)])) (fun q j z => by rw [upN (by omega), upN (by omega)])
  · simp (disch := omega) only [s_ic, s_li, s_la, s_si, s_sa, s_inc, s_bin, s_un, s_dup, s_dup2, s_pop, s_if, s_if2, s_gi, s_gr, s_pi, s_pz, s_al, s_aa, s_as, s_az, s_ac, s_mx, s_mn, s_cpy, s_kp, s_ri, s_rz, s_rv, s_cv, s_cs, s_rem, s_div, az_gl, az_sl, az_kp, az_pop, az_fun, az_funX, az_pat, az_in, List.map, List.replicate, List.length, List.cons_append, List.nil_append, Option.toList, f_add, f_sub, f_mul, f_neg, c_eq, c_ne, c_lt, c_ge, c_gt, c_le, d_eq, d_ne, d_lt, d_ge, d_gt, d_le, vinT, nIclamp, nIadd, nImul, nIeq, nIle, nIlt, nIlt0, nIge0, nIgt0, nIle0, nIeq0, ltT, ltF, leT, leF, eqT, eqF, upS, upN, k_n, az_setI, az_setA, true_and, and_true, and_self, true_implies, false_implies, implies_true, not_true_eq_false, not_false_eq_true, Nat.add_zero, Nat.zero_add, Nat.reduceAdd, Nat.reduceSub, Nat.reduceMul, Nat.reduceLT, Nat.reduceLeDiff, Nat.reduceEqDiff, Nat.reducePow, reduceIte, ne_eq, false_and, and_false, exists_eq_left', or_true, true_or, or_false, false_or, nI1one, nI0one, bI0, bI1, bIor, bI_z, bI_1, Bool.not_eq_true, Bool.not_eq_false, Bool.true_eq_false, Bool.false_eq_true, LX11_readPlan_47, LX11_readPlan_48, LX11_readPlan_71, LX11_readPlan_91, s_thr, k_s_0, k_f_0_0, k_f_0_1, k_f_0_2, k_f_0_3, k_f_0_4, k_f_0_5, k_f_0_6, k_f_0_7, k_s_47, k_f_47_0, k_s_48, k_r_48, k_s_233, k_f_233_0, k_f_233_1, k_f_233_2, k_f_233_3, k_f_233_4, k_f_233_5, k_f_233_6, k_f_233_7, k_f_233_8, k_f_233_9, k_s_234, k_f_234_0, k_f_234_1, k_f_234_2, k_s_235, k_s_236, k_s_237, k_s_238, k_f_238_0, k_f_238_1, k_f_238_2, k_s_239, k_s_240, k_r_240, k_t_240, k_s_247, k_r_247, k_t_247, k_s_254, k_f_254_0, k_f_254_1, k_f_254_2, k_s_255, k_r_255, k_t_255, k_s_260, k_r_260, k_t_260, k_s_265, k_r_265, k_t_265, k_s_290, k_r_290, k_t_290, k_s_297, k_r_297, k_t_297, k_s_304, k_r_304, k_t_304, k_s_311, k_r_311, k_t_311, k_s_318, k_r_318, k_t_318, k_s_325, k_r_325, k_t_325, k_s_339, k_s_340, k_f_340_0, k_f_340_1, k_f_340_2, k_f_340_3, k_s_341, k_s_342, k_s_343, k_s_344, k_s_345, k_f_345_0, k_f_345_1, k_s_346, k_s_347, k_s_348, k_f_348_0, k_f_348_1, k_f_348_2, k_s_349, k_s_350, k_s_351, k_s_352, k_f_352_0, k_s_353, k_s_1, k_s_2, k_s_9, k_s_16, k_s_21, k_s_22, k_s_23, k_f_1_5, k_f_1_6, k_f_1_7, k_f_1_8, k_f_1_9, k_f_1_10, k_r_2, k_t_2, k_r_9, k_t_9, k_r_16, k_t_16]
    rw [if_pos (Or.inr h2), erF_all h1] at hQ
    exact hQ _ (CR_txt hC0 ⟨Nat.zero_le _, by rw [upS ⟨rfl, rfl⟩], by rw [upN (by omega), upS ⟨rfl, rfl⟩], fun j hj => absurd hj (Nat.not_lt_zero _)⟩ (fun q j z => by rw [upN (by omega), upN (by omega)])) (fun q j z => by rw [upN (by omega), upN (by omega)])
  · rw [if_neg (by rw [erF_all h1]; exact fun z => z.elim (fun z => absurd z (Nat.lt_irrefl _)) (fun z => z h2))] at hQ
    have hn : n ≤ 100 := hT0.1
    obtain ⟨r, hr, hr1⟩ : ∃ r, n + 1 = r * (pH S + 3) ∧ 1 ≤ r := by
      have h2' : n % (pH S + 3) = pH S + 2 := h2
      refine ⟨n / (pH S + 3) + 1, ?_, Nat.le_add_left 1 _⟩
      have := Nat.div_add_mod n (pH S + 3)
      rw [Nat.add_mul, Nat.one_mul, Nat.mul_comm]
      omega
    have htx : txR (pH S) n = r := by
      unfold txR
      rw [hr, Nat.mul_div_cancel _ (by omega)]
    rw [htx] at hQ
    have pos : ∀ i k, i < r → k < pH S + 2 → i * (pH S + 3) + k < n ∧ (i * (pH S + 3) + k) % (pH S + 3) = k := by
      intro i k hi hk
      have : (i + 1) * (pH S + 3) ≤ r * (pH S + 3) := Nat.mul_le_mul_right _ hi
      rw [Nat.succ_mul] at this
      refine ⟨by omega, ?_⟩
      rw [Nat.mul_comm, Nat.mul_add_mod, Nat.mod_eq_of_lt (by omega)]
    have hw : ∀ i k, i < r → k < pH S + 2 → ftB (T (i * (pH S + 3) + k)) k (pH S) = true := by
      intro i k hi hk
      have := h1 _ (pos i k hi hk).1
      unfold wfB at this
      have e2 := (pos i k hi hk).2
      have e3 : (i * (pH S + 3) + k) % (pH S + 3) = k := e2
      rw [show pH (S, P, sv, T, n, e).1 = pH S from rfl, e3] at this
      exact this
    have hdig : ∀ i, i < r → 48 ≤ T (i * (pH S + 3)) ∧ T (i * (pH S + 3)) ≤ 53 := by
      intro i hi
      have := hw i 0 hi (by omega)
      unfold ftB at this
      rw [if_pos rfl, Bool.and_eq_true, decide_eq_true_eq, decide_eq_true_eq, Nat.add_zero] at this
      exact this
    have hbit : ∀ i h, i < r → h < pH S → T (i * (pH S + 3) + 2 + h) = 48 ∨ T (i * (pH S + 3) + 2 + h) = 49 := by
      intro i h hi hh
      have := hw i (2 + h) hi (by omega)
      unfold ftB at this
      rw [if_neg (by omega), if_neg (by omega), if_pos (by omega), Bool.or_eq_true, decide_eq_true_eq, decide_eq_true_eq, ← Nat.add_assoc] at this
      exact this
    obtain ⟨m, m1, m2, m3⟩ := gu_kn hdig
    have hUU : pU S ≤ 6 := hV0.2.2.2.1
    simp (disch := omega) only [s_ic, s_li, s_la, s_si, s_sa, s_inc, s_bin, s_un, s_dup, s_dup2, s_pop, s_if, s_if2, s_gi, s_gr, s_pi, s_pz, s_al, s_aa, s_as, s_az, s_ac, s_mx, s_mn, s_cpy, s_kp, s_ri, s_rz, s_rv, s_cv, s_cs, s_rem, s_div, az_gl, az_sl, az_kp, az_pop, az_fun, az_funX, az_pat, az_in, List.map, List.replicate, List.length, List.cons_append, List.nil_append, Option.toList, f_add, f_sub, f_mul, f_neg, c_eq, c_ne, c_lt, c_ge, c_gt, c_le, d_eq, d_ne, d_lt, d_ge, d_gt, d_le, vinT, nIclamp, nIadd, nImul, nIeq, nIle, nIlt, nIlt0, nIge0, nIgt0, nIle0, nIeq0, ltT, ltF, leT, leF, eqT, eqF, upS, upN, k_n, az_setI, az_setA, true_and, and_true, and_self, true_implies, false_implies, implies_true, not_true_eq_false, not_false_eq_true, Nat.add_zero, Nat.zero_add, Nat.reduceAdd, Nat.reduceSub, Nat.reduceMul, Nat.reduceLT, Nat.reduceLeDiff, Nat.reduceEqDiff, Nat.reducePow, reduceIte, ne_eq, false_and, and_false, exists_eq_left', or_true, true_or, or_false, false_or, nI1one, nI0one, bI0, bI1, bIor, bI_z, bI_1, Bool.not_eq_true, Bool.not_eq_false, Bool.true_eq_false, Bool.false_eq_true, hS.1, hS.2.2.2.1, k_s_0, k_f_0_0, k_f_0_1, k_f_0_2, k_f_0_3, k_f_0_4, k_f_0_5, k_f_0_6, k_f_0_7, k_s_47, k_f_47_0, k_s_48, k_r_48, k_s_233, k_f_233_0, k_f_233_1, k_f_233_2, k_f_233_3, k_f_233_4, k_f_233_5, k_f_233_6, k_f_233_7, k_f_233_8, k_f_233_9, k_s_234, k_f_234_0, k_f_234_1, k_f_234_2, k_s_235, k_s_236, k_s_237, k_s_238, k_f_238_0, k_f_238_1, k_f_238_2, k_s_239, k_s_240, k_r_240, k_t_240, k_s_247, k_r_247, k_t_247, k_s_254, k_f_254_0, k_f_254_1, k_f_254_2, k_s_255, k_r_255, k_t_255, k_s_260, k_r_260, k_t_260, k_s_265, k_r_265, k_t_265, k_s_290, k_r_290, k_t_290, k_s_297, k_r_297, k_t_297, k_s_304, k_r_304, k_t_304, k_s_311, k_r_311, k_t_311, k_s_318, k_r_318, k_t_318, k_s_325, k_r_325, k_t_325, k_s_339, k_s_340, k_f_340_0, k_f_340_1, k_f_340_2, k_f_340_3, k_s_341, k_s_342, k_s_343, k_s_344, k_s_345, k_f_345_0, k_f_345_1, k_s_346, k_s_347, k_s_348, k_f_348_0, k_f_348_1, k_f_348_2, k_s_349, k_s_350, k_s_351, k_s_352, k_f_352_0, k_s_353, k_s_1, k_s_2, k_s_9, k_s_16, k_s_21, k_s_22, k_s_23, k_f_1_5, k_f_1_6, k_f_1_7, k_f_1_8, k_f_1_9, k_f_1_10, k_r_2, k_t_2, k_r_9, k_t_9, k_r_16, k_t_16]
    refine w_greatestUnit hT hHH hr ?_
    simp (disch := omega) only [s_ic, s_li, s_la, s_si, s_sa, s_inc, s_bin, s_un, s_dup, s_dup2, s_pop, s_if, s_if2, s_gi, s_gr, s_pi, s_pz, s_al, s_aa, s_as, s_az, s_ac, s_mx, s_mn, s_cpy, s_kp, s_ri, s_rz, s_rv, s_cv, s_cs, s_rem, s_div, az_gl, az_sl, az_kp, az_pop, az_fun, az_funX, az_pat, az_in, List.map, List.replicate, List.length, List.cons_append, List.nil_append, Option.toList, f_add, f_sub, f_mul, f_neg, c_eq, c_ne, c_lt, c_ge, c_gt, c_le, d_eq, d_ne, d_lt, d_ge, d_gt, d_le, vinT, nIclamp, nIadd, nImul, nIeq, nIle, nIlt, nIlt0, nIge0, nIgt0, nIle0, nIeq0, ltT, ltF, leT, leF, eqT, eqF, upS, upN, k_n, az_setI, az_setA, true_and, and_true, and_self, true_implies, false_implies, implies_true, not_true_eq_false, not_false_eq_true, Nat.add_zero, Nat.zero_add, Nat.reduceAdd, Nat.reduceSub, Nat.reduceMul, Nat.reduceLT, Nat.reduceLeDiff, Nat.reduceEqDiff, Nat.reducePow, reduceIte, ne_eq, false_and, and_false, exists_eq_left', or_true, true_or, or_false, false_or, nI1one, nI0one, bI0, bI1, bIor, bI_z, bI_1, Bool.not_eq_true, Bool.not_eq_false, Bool.true_eq_false, Bool.false_eq_true, LX11_readPlan_47, LX11_readPlan_48, m2, hS.1, hS.2.2.2.1, e_rows hT hHH, htx, k_s_0, k_f_0_0, k_f_0_1, k_f_0_2, k_f_0_3, k_f_0_4, k_f_0_5, k_f_0_6, k_f_0_7, k_s_47, k_f_47_0, k_s_48, k_r_48, k_s_233, k_f_233_0, k_f_233_1, k_f_233_2, k_f_233_3, k_f_233_4, k_f_233_5, k_f_233_6, k_f_233_7, k_f_233_8, k_f_233_9, k_s_234, k_f_234_0, k_f_234_1, k_f_234_2, k_s_235, k_s_236, k_s_237, k_s_238, k_f_238_0, k_f_238_1, k_f_238_2, k_s_239, k_s_240, k_r_240, k_t_240, k_s_247, k_r_247, k_t_247, k_s_254, k_f_254_0, k_f_254_1, k_f_254_2, k_s_255, k_r_255, k_t_255, k_s_260, k_r_260, k_t_260, k_s_265, k_r_265, k_t_265, k_s_290, k_r_290, k_t_290, k_s_297, k_r_297, k_t_297, k_s_304, k_r_304, k_t_304, k_s_311, k_r_311, k_t_311, k_s_318, k_r_318, k_t_318, k_s_325, k_r_325, k_t_325, k_s_339, k_s_340, k_f_340_0, k_f_340_1, k_f_340_2, k_f_340_3, k_s_341, k_s_342, k_s_343, k_s_344, k_s_345, k_f_345_0, k_f_345_1, k_s_346, k_s_347, k_s_348, k_f_348_0, k_f_348_1, k_f_348_2, k_s_349, k_s_350, k_s_351, k_s_352, k_f_352_0, k_s_353, k_s_1, k_s_2, k_s_9, k_s_16, k_s_21, k_s_22, k_s_23, k_f_1_5, k_f_1_6, k_f_1_7, k_f_1_8, k_f_1_9, k_f_1_10, k_r_2, k_t_2, k_r_9, k_t_9, k_r_16, k_t_16]
    refine ⟨fun e1 => ?_, fun e1 => ?_⟩
    · have hk : knB T (pH S) (pU S) r = false := by
        have e1' : pU S ≤ m := e1
        by_cases e2 : 1 ≤ pU S
        · cases e3 : knB T (pH S) (pU S) r
          · rfl
          · exact absurd ((m3 _ e2).mp e3) (by omega)
        · cases e3 : knB T (pH S) (pU S) r
          · rfl
          · have := knB_t e3 0 (by omega)
            have := (hdig 0 (by omega)).1
            omega
      rw [if_pos hk] at hQ
      simp (disch := omega) only [s_ic, s_li, s_la, s_si, s_sa, s_inc, s_bin, s_un, s_dup, s_dup2, s_pop, s_if, s_if2, s_gi, s_gr, s_pi, s_pz, s_al, s_aa, s_as, s_az, s_ac, s_mx, s_mn, s_cpy, s_kp, s_ri, s_rz, s_rv, s_cv, s_cs, s_rem, s_div, az_gl, az_sl, az_kp, az_pop, az_fun, az_funX, az_pat, az_in, List.map, List.replicate, List.length, List.cons_append, List.nil_append, Option.toList, f_add, f_sub, f_mul, f_neg, c_eq, c_ne, c_lt, c_ge, c_gt, c_le, d_eq, d_ne, d_lt, d_ge, d_gt, d_le, vinT, nIclamp, nIadd, nImul, nIeq, nIle, nIlt, nIlt0, nIge0, nIgt0, nIle0, nIeq0, ltT, ltF, leT, leF, eqT, eqF, upS, upN, k_n, az_setI, az_setA, true_and, and_true, and_self, true_implies, false_implies, implies_true, not_true_eq_false, not_false_eq_true, Nat.add_zero, Nat.zero_add, Nat.reduceAdd, Nat.reduceSub, Nat.reduceMul, Nat.reduceLT, Nat.reduceLeDiff, Nat.reduceEqDiff, Nat.reducePow, reduceIte, ne_eq, false_and, and_false, exists_eq_left', or_true, true_or, or_false, false_or, nI1one, nI0one, bI0, bI1, bIor, bI_z, bI_1, Bool.not_eq_true, Bool.not_eq_false, Bool.true_eq_false, Bool.false_eq_true, LX11_readPlan_71, LX11_readPlan_91, s_thr, k_s_0, k_f_0_0, k_f_0_1, k_f_0_2, k_f_0_3, k_f_0_4, k_f_0_5, k_f_0_6, k_f_0_7, k_s_47, k_f_47_0, k_s_48, k_r_48, k_s_233, k_f_233_0, k_f_233_1, k_f_233_2, k_f_233_3, k_f_233_4, k_f_233_5, k_f_233_6, k_f_233_7, k_f_233_8, k_f_233_9, k_s_234, k_f_234_0, k_f_234_1, k_f_234_2, k_s_235, k_s_236, k_s_237, k_s_238, k_f_238_0, k_f_238_1, k_f_238_2, k_s_239, k_s_240, k_r_240, k_t_240, k_s_247, k_r_247, k_t_247, k_s_254, k_f_254_0, k_f_254_1, k_f_254_2, k_s_255, k_r_255, k_t_255, k_s_260, k_r_260, k_t_260, k_s_265, k_r_265, k_t_265, k_s_290, k_r_290, k_t_290, k_s_297, k_r_297, k_t_297, k_s_304, k_r_304, k_t_304, k_s_311, k_r_311, k_t_311, k_s_318, k_r_318, k_t_318, k_s_325, k_r_325, k_t_325, k_s_339, k_s_340, k_f_340_0, k_f_340_1, k_f_340_2, k_f_340_3, k_s_341, k_s_342, k_s_343, k_s_344, k_s_345, k_f_345_0, k_f_345_1, k_s_346, k_s_347, k_s_348, k_f_348_0, k_f_348_1, k_f_348_2, k_s_349, k_s_350, k_s_351, k_s_352, k_f_352_0, k_s_353, k_s_1, k_s_2, k_s_9, k_s_16, k_s_21, k_s_22, k_s_23, k_f_1_5, k_f_1_6, k_f_1_7, k_f_1_8, k_f_1_9, k_f_1_10, k_r_2, k_t_2, k_r_9, k_t_9, k_r_16, k_t_16]
      exact hQ _ (CR_txt hC0 ⟨Nat.zero_le _, by rw [upS ⟨rfl, rfl⟩], by rw [upN (by omega)]; exact hT0.2.2.1, fun j hj => absurd hj (Nat.not_lt_zero _)⟩ (fun q j z => by rw [upN (by omega)])) (fun q j z => by rw [upN (by omega)])
    · have e1' : ¬ pU S ≤ m := e1
      have hk : knB T (pH S) (pU S) r = true := (m3 _ (by omega)).mpr (by omega)
      rw [if_neg (by rw [hk]; decide)] at hQ
      simp (disch := omega) only [s_ic, s_li, s_la, s_si, s_sa, s_inc, s_bin, s_un, s_dup, s_dup2, s_pop, s_if, s_if2, s_gi, s_gr, s_pi, s_pz, s_al, s_aa, s_as, s_az, s_ac, s_mx, s_mn, s_cpy, s_kp, s_ri, s_rz, s_rv, s_cv, s_cs, s_rem, s_div, az_gl, az_sl, az_kp, az_pop, az_fun, az_funX, az_pat, az_in, List.map, List.replicate, List.length, List.cons_append, List.nil_append, Option.toList, f_add, f_sub, f_mul, f_neg, c_eq, c_ne, c_lt, c_ge, c_gt, c_le, d_eq, d_ne, d_lt, d_ge, d_gt, d_le, vinT, nIclamp, nIadd, nImul, nIeq, nIle, nIlt, nIlt0, nIge0, nIgt0, nIle0, nIeq0, ltT, ltF, leT, leF, eqT, eqF, upS, upN, k_n, az_setI, az_setA, true_and, and_true, and_self, true_implies, false_implies, implies_true, not_true_eq_false, not_false_eq_true, Nat.add_zero, Nat.zero_add, Nat.reduceAdd, Nat.reduceSub, Nat.reduceMul, Nat.reduceLT, Nat.reduceLeDiff, Nat.reduceEqDiff, Nat.reducePow, reduceIte, ne_eq, false_and, and_false, exists_eq_left', or_true, true_or, or_false, false_or, nI1one, nI0one, bI0, bI1, bIor, bI_z, bI_1, Bool.not_eq_true, Bool.not_eq_false, Bool.true_eq_false, Bool.false_eq_true, LX11_readPlan_71, LX11_readPlan_91, k_s_0, k_f_0_0, k_f_0_1, k_f_0_2, k_f_0_3, k_f_0_4, k_f_0_5, k_f_0_6, k_f_0_7, k_s_47, k_f_47_0, k_s_48, k_r_48, k_s_233, k_f_233_0, k_f_233_1, k_f_233_2, k_f_233_3, k_f_233_4, k_f_233_5, k_f_233_6, k_f_233_7, k_f_233_8, k_f_233_9, k_s_234, k_f_234_0, k_f_234_1, k_f_234_2, k_s_235, k_s_236, k_s_237, k_s_238, k_f_238_0, k_f_238_1, k_f_238_2, k_s_239, k_s_240, k_r_240, k_t_240, k_s_247, k_r_247, k_t_247, k_s_254, k_f_254_0, k_f_254_1, k_f_254_2, k_s_255, k_r_255, k_t_255, k_s_260, k_r_260, k_t_260, k_s_265, k_r_265, k_t_265, k_s_290, k_r_290, k_t_290, k_s_297, k_r_297, k_t_297, k_s_304, k_r_304, k_t_304, k_s_311, k_r_311, k_t_311, k_s_318, k_r_318, k_t_318, k_s_325, k_r_325, k_t_325, k_s_339, k_s_340, k_f_340_0, k_f_340_1, k_f_340_2, k_f_340_3, k_s_341, k_s_342, k_s_343, k_s_344, k_s_345, k_f_345_0, k_f_345_1, k_s_346, k_s_347, k_s_348, k_f_348_0, k_f_348_1, k_f_348_2, k_s_349, k_s_350, k_s_351, k_s_352, k_f_352_0, k_s_353, k_s_1, k_s_2, k_s_9, k_s_16, k_s_21, k_s_22, k_s_23, k_f_1_5, k_f_1_6, k_f_1_7, k_f_1_8, k_f_1_9, k_f_1_10, k_r_2, k_t_2, k_r_9, k_t_9, k_r_16, k_t_16]
      refine w_beginChange hV hS hH (fun I1 a1 a2 a3 => ?_)
      have hS1 := CS_frame (I' := I1) hV0.2.2.2.1 hV0.2.2.2.2.1 hS0 (fun a j _ _ => a3 _ _ (by omega) (by omega))
      simp (disch := omega) only [s_ic, s_li, s_la, s_si, s_sa, s_inc, s_bin, s_un, s_dup, s_dup2, s_pop, s_if, s_if2, s_gi, s_gr, s_pi, s_pz, s_al, s_aa, s_as, s_az, s_ac, s_mx, s_mn, s_cpy, s_kp, s_ri, s_rz, s_rv, s_cv, s_cs, s_rem, s_div, az_gl, az_sl, az_kp, az_pop, az_fun, az_funX, az_pat, az_in, List.map, List.replicate, List.length, List.cons_append, List.nil_append, Option.toList, f_add, f_sub, f_mul, f_neg, c_eq, c_ne, c_lt, c_ge, c_gt, c_le, d_eq, d_ne, d_lt, d_ge, d_gt, d_le, vinT, nIclamp, nIadd, nImul, nIeq, nIle, nIlt, nIlt0, nIge0, nIgt0, nIle0, nIeq0, ltT, ltF, leT, leF, eqT, eqF, upS, upN, k_n, az_setI, az_setA, true_and, and_true, and_self, true_implies, false_implies, implies_true, not_true_eq_false, not_false_eq_true, Nat.add_zero, Nat.zero_add, Nat.reduceAdd, Nat.reduceSub, Nat.reduceMul, Nat.reduceLT, Nat.reduceLeDiff, Nat.reduceEqDiff, Nat.reducePow, reduceIte, ne_eq, false_and, and_false, exists_eq_left', or_true, true_or, or_false, false_or, nI1one, nI0one, bI0, bI1, bIor, bI_z, bI_1, Bool.not_eq_true, Bool.not_eq_false, Bool.true_eq_false, Bool.false_eq_true, k_s_0, k_f_0_0, k_f_0_1, k_f_0_2, k_f_0_3, k_f_0_4, k_f_0_5, k_f_0_6, k_f_0_7, k_s_47, k_f_47_0, k_s_48, k_r_48, k_s_233, k_f_233_0, k_f_233_1, k_f_233_2, k_f_233_3, k_f_233_4, k_f_233_5, k_f_233_6, k_f_233_7, k_f_233_8, k_f_233_9, k_s_234, k_f_234_0, k_f_234_1, k_f_234_2, k_s_235, k_s_236, k_s_237, k_s_238, k_f_238_0, k_f_238_1, k_f_238_2, k_s_239, k_s_240, k_r_240, k_t_240, k_s_247, k_r_247, k_t_247, k_s_254, k_f_254_0, k_f_254_1, k_f_254_2, k_s_255, k_r_255, k_t_255, k_s_260, k_r_260, k_t_260, k_s_265, k_r_265, k_t_265, k_s_290, k_r_290, k_t_290, k_s_297, k_r_297, k_t_297, k_s_304, k_r_304, k_t_304, k_s_311, k_r_311, k_t_311, k_s_318, k_r_318, k_t_318, k_s_325, k_r_325, k_t_325, k_s_339, k_s_340, k_f_340_0, k_f_340_1, k_f_340_2, k_f_340_3, k_s_341, k_s_342, k_s_343, k_s_344, k_s_345, k_f_345_0, k_f_345_1, k_s_346, k_s_347, k_s_348, k_f_348_0, k_f_348_1, k_f_348_2, k_s_349, k_s_350, k_s_351, k_s_352, k_f_352_0, k_s_353, k_s_1, k_s_2, k_s_9, k_s_16, k_s_21, k_s_22, k_s_23, k_f_1_5, k_f_1_6, k_f_1_7, k_f_1_8, k_f_1_9, k_f_1_10, k_r_2, k_t_2, k_r_9, k_t_9, k_r_16, k_t_16]
      refine w_textPlan hV0 hS1 (XT_frame hT0 (fun q j _ _ => a3 _ _ (by omega) (by omega))) hr (fun i hi => ⟨(hdig i hi).1, knB_t hk i hi⟩) hbit (fun I2 b1 b2 => ?_)
      simp (disch := omega) only [s_ic, s_li, s_la, s_si, s_sa, s_inc, s_bin, s_un, s_dup, s_dup2, s_pop, s_if, s_if2, s_gi, s_gr, s_pi, s_pz, s_al, s_aa, s_as, s_az, s_ac, s_mx, s_mn, s_cpy, s_kp, s_ri, s_rz, s_rv, s_cv, s_cs, s_rem, s_div, az_gl, az_sl, az_kp, az_pop, az_fun, az_funX, az_pat, az_in, List.map, List.replicate, List.length, List.cons_append, List.nil_append, Option.toList, f_add, f_sub, f_mul, f_neg, c_eq, c_ne, c_lt, c_ge, c_gt, c_le, d_eq, d_ne, d_lt, d_ge, d_gt, d_le, vinT, nIclamp, nIadd, nImul, nIeq, nIle, nIlt, nIlt0, nIge0, nIgt0, nIle0, nIeq0, ltT, ltF, leT, leF, eqT, eqF, upS, upN, k_n, az_setI, az_setA, true_and, and_true, and_self, true_implies, false_implies, implies_true, not_true_eq_false, not_false_eq_true, Nat.add_zero, Nat.zero_add, Nat.reduceAdd, Nat.reduceSub, Nat.reduceMul, Nat.reduceLT, Nat.reduceLeDiff, Nat.reduceEqDiff, Nat.reducePow, reduceIte, ne_eq, false_and, and_false, exists_eq_left', or_true, true_or, or_false, false_or, nI1one, nI0one, bI0, bI1, bIor, bI_z, bI_1, Bool.not_eq_true, Bool.not_eq_false, Bool.true_eq_false, Bool.false_eq_true, k_s_0, k_f_0_0, k_f_0_1, k_f_0_2, k_f_0_3, k_f_0_4, k_f_0_5, k_f_0_6, k_f_0_7, k_s_47, k_f_47_0, k_s_48, k_r_48, k_s_233, k_f_233_0, k_f_233_1, k_f_233_2, k_f_233_3, k_f_233_4, k_f_233_5, k_f_233_6, k_f_233_7, k_f_233_8, k_f_233_9, k_s_234, k_f_234_0, k_f_234_1, k_f_234_2, k_s_235, k_s_236, k_s_237, k_s_238, k_f_238_0, k_f_238_1, k_f_238_2, k_s_239, k_s_240, k_r_240, k_t_240, k_s_247, k_r_247, k_t_247, k_s_254, k_f_254_0, k_f_254_1, k_f_254_2, k_s_255, k_r_255, k_t_255, k_s_260, k_r_260, k_t_260, k_s_265, k_r_265, k_t_265, k_s_290, k_r_290, k_t_290, k_s_297, k_r_297, k_t_297, k_s_304, k_r_304, k_t_304, k_s_311, k_r_311, k_t_311, k_s_318, k_r_318, k_t_318, k_s_325, k_r_325, k_t_325, k_s_339, k_s_340, k_f_340_0, k_f_340_1, k_f_340_2, k_f_340_3, k_s_341, k_s_342, k_s_343, k_s_344, k_s_345, k_f_345_0, k_f_345_1, k_s_346, k_s_347, k_s_348, k_f_348_0, k_f_348_1, k_f_348_2, k_s_349, k_s_350, k_s_351, k_s_352, k_f_352_0, k_s_353, k_s_1, k_s_2, k_s_9, k_s_16, k_s_21, k_s_22, k_s_23, k_f_1_5, k_f_1_6, k_f_1_7, k_f_1_8, k_f_1_9, k_f_1_10, k_r_2, k_t_2, k_r_9, k_t_9, k_r_16, k_t_16]
      refine hQ _ (CR_txt (CR_chg hC0 (HR_frame a1 (fun q j _ _ => b2 _ _ (by omega))) (by rw [b2 _ _ (by omega)]; exact a2) (fun q j z => by rw [b2 _ _ (by omega), a3 _ _ (by omega) (by omega)]) (VS_setP hV0 (twP_hi hV0 r)) b1) ⟨Nat.zero_le _, by rw [upS ⟨rfl, rfl⟩], ?_, fun j hj => absurd hj (Nat.not_lt_zero _)⟩ (fun q j z => by rw [upN (by omega)])) (fun q j z => by rw [upN (by omega), b2 _ _ (by omega), a3 _ _ (by omega) (by omega)])
      rw [upN (by omega), b2 _ _ (by omega), a3 _ _ (by omega) (by omega)]; exact hT0.2.2.1
