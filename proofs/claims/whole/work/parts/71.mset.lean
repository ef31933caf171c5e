set_option maxRecDepth 100000
set_option maxHeartbeats 2000000
/-- behind a change the model's memory holds the planner -/
theorem MR_chg {I I' : Nat → Nat → Int32} {A : AT} {S : PS} (hM : MR A I) (h4 : I' 354 4 = nI (puH A.1 A.2.1).2) (hP : ∀ i, i < (puH A.1 A.2.1).2 → CM ((puH A.1 A.2.1).1 i) (fun j => I' 357 (235 * ((puH A.1 A.2.1).2 - 1 - i) + j))) (h7 : I' 354 7 = bI false) (hf : ∀ q j, (q = 354 ∧ (j = 2 ∨ j = 26 ∨ j = 29) ∨ q = 356 ∨ q = 375) → I' q j = I q j) (hS : CM S (I' 355)) : MR (chS A S) I' := by
  obtain ⟨-, -, hsv, ⟨t1, t2, t3⟩, -⟩ := hM
  have e6 : I' 356 = I 356 := funext (fun j => hf _ _ (by omega))
  refine ⟨hS, ⟨h4, hP⟩, ⟨by rw [hf _ _ (by omega)]; exact hsv.1, fun V hVV => by rw [e6]; exact hsv.2 V hVV⟩, ⟨by rw [hf _ _ (by omega)]; exact t1, by rw [hf _ _ (by omega)]; exact t2, fun j hj => by rw [hf _ _ (by omega)]; exact t3 j hj⟩, false, h7, fun z => absurd z (by decide)⟩
/-- a call that throws leaves the planner -/
theorem MR_thr {I : Nat → Nat → Int32} {A : AT} {x : Int32} (hM : MR A I) : MR A (az_up I 354 5 x) := by
  obtain ⟨hS, ⟨h1, h2⟩, hsv, ⟨t1, t2, t3⟩, kn, h7, ho⟩ := hM
  refine ⟨by rw [up_na (by omega)]; exact hS, ⟨by rw [upN (by omega)]; exact h1, fun i hi => by rw [up_na (show 357 ≠ 354 by omega)]; exact h2 i hi⟩, ⟨by rw [upN (by omega)]; exact hsv.1, fun V hVV => by rw [up_na (by omega)]; exact hsv.2 V hVV⟩, ⟨by rw [upN (by omega)]; exact t1, by rw [upN (by omega)]; exact t2, fun j hj => by rw [upN (by omega)]; exact t3 j hj⟩, kn, by rw [upN (by omega)]; exact h7, fun z => ?_⟩
  obtain ⟨o1, o2⟩ := ho z
  exact ⟨fun h hh => by
    obtain ⟨a1, a2, a3, a4, a5, a6, a7, a8, a9, a10, a11, a12⟩ := o1 h hh
    exact ⟨fun u hu => by rw [upN (by omega)]; exact a1 u hu, fun u hu => by rw [upN (by omega)]; exact a2 u hu, fun u hu => by rw [upN (by omega)]; exact a3 u hu, fun u hu => by rw [upN (by omega)]; exact a4 u hu, fun u hu => by rw [upN (by omega)]; exact a5 u hu, fun u hu => by rw [upN (by omega)]; exact a6 u hu, fun u hu => by rw [upN (by omega)]; exact a7 u hu, fun u hu => by rw [upN (by omega)]; exact a8 u hu, fun u hu => by rw [upN (by omega)]; exact a9 u hu, fun u c hu hc => by rw [upN (by omega)]; exact a10 u c hu hc, fun c hc => by rw [upN (by omega)]; exact a11 c hc, fun c hc => by rw [upN (by omega)]; exact a12 c hc⟩, VM_frame o2 (by rw [upN (by omega)]) (fun j _ => by rw [upN (by omega)])⟩
/-- how the model's method ends -/
def fnM (Q : Option Value → az_M → Prop) (I : Nat → Nat → Int32) (R : RT) (o : ST) : Prop := ∀ I', MR o.2.2 I' → I' 354 5 = nI o.1 → (∀ q j, q < 354 ∨ 377 < q → I' q j = I q j) → Q (some (.int o.2.1)) (K0, I', R)
theorem fnM_t {Q : Option Value → az_M → Prop} {I : Nat → Nat → Int32} {R : RT} {A : AT} {k : Nat} (hM : MR A I) (hQ : fnM Q I R (thS k A)) : Q (some (.int (nI 0))) (K0, az_up I 354 5 (nI k), R) :=
  hQ _ (MR_thr hM) (by rw [upS ⟨rfl, rfl⟩]; rfl) (fun q j z => by rw [upN (by omega)])
theorem leN {k : Nat} (h : k < 2 ^ 31) : (nI k ≤ 0) = (k = 0) := nIle0 h
/-- the model's change behind 'thrown = 0' -/
theorem m_chg {I : Nat → Nat → Int32} {R : RT} {A : AT} {S : PS} {x : Int32} {Q : Option Value → az_M → Prop} (hA : AV A) (hM : MR A I) (hQ : fnM Q I R (okS x (chS A S)))
    {G : Option Value → az_M → Prop} (hG : ∀ I1, CM A.1 (I1 355) → (∀ I2, CM S (I2 355) → (∀ q j, q ≠ 355 → I2 q j = I1 q j) → Q (some (.int x)) (K0, I2, R)) → G none (K0, I1, R)) : FX12_change [.ref 354] (K0, az_up I 354 5 (nI 0), R) G := by
  refine m_change hA (MR_thr hM) (fun I1 a1 a2 a3 a4 => hG I1 ?_ (fun I2 b1 b2 => hQ I2 (MR_chg (MR_thr (x := nI 0) hM) ?_ (fun i hi => ?_) ?_ (fun q j z => ?_) b1) ?_ (fun q j z => ?_)))
  · rw [show I1 355 = I 355 from funext (fun j => by rw [a4 _ _ (by omega) (by omega), upN (by omega)])]; exact hM.1
  · rw [b2 _ _ (by omega)]; exact a1
  · rw [show I2 357 = I1 357 from funext (fun j => b2 _ _ (by omega))]; exact a2 i hi
  · rw [b2 _ _ (by omega)]; exact a3
  · rw [b2 _ _ (by omega), a4 _ _ (by omega) (by omega)]
  · rw [b2 _ _ (by omega), a4 _ _ (by omega) (by omega), upS ⟨rfl, rfl⟩]; rfl
  · rw [b2 _ _ (by omega), a4 _ _ (by omega) (by omega), upN (by omega)]
theorem m_setDemand {I : Nat → Nat → Int32} {R : RT} {A : AT} {x y z : Int32} {Q : Option Value → az_M → Prop} (hA : AV A) (hM : MR A I) (hQ : fnM Q I R (spDem A x y z)) : FX12_setDemand [.ref 354, .int x, .int y, .int z] (K0, I, R) Q := by
  have hV := hA.1
  have hS := hM.1
  unfold spDem at hQ
  simp (disch := omega) only [s_ic, s_li, s_la, s_si, s_sa, s_inc, s_bin, s_un, s_dup, s_dup2, s_pop, s_if, s_if2, s_gi, s_gr, s_pi, s_pz, s_al, s_aa, s_as, s_az, s_ac, s_mx, s_mn, s_cpy, s_kp, s_ri, s_rz, s_rv, s_cv, s_cs, s_rem, s_div, az_gl, az_sl, az_kp, az_pop, az_fun, az_funX, az_pat, az_in, List.map, List.replicate, List.length, List.cons_append, List.nil_append, Option.toList, f_add, f_sub, f_mul, f_neg, c_eq, c_ne, c_lt, c_ge, c_gt, c_le, d_eq, d_ne, d_lt, d_ge, d_gt, d_le, vinT, nIclamp, nIadd, nImul, nIeq, nIle, nIlt, nIlt0, nIge0, nIgt0, nIle0, nIeq0, ltT, ltF, leT, leF, eqT, eqF, upS, upN, k_n, az_setI, az_setA, true_and, and_true, and_self, true_implies, false_implies, implies_true, not_true_eq_false, not_false_eq_true, Nat.add_zero, Nat.zero_add, Nat.reduceAdd, Nat.reduceSub, Nat.reduceMul, Nat.reduceLT, Nat.reduceLeDiff, Nat.reduceEqDiff, Nat.reducePow, reduceIte, ne_eq, false_and, and_false, exists_eq_left', or_true, true_or, or_false, false_or, nI1one, nI0one, bI0, bI1, bIor, bI_z, bI_1, Bool.not_eq_true, Bool.not_eq_false, Bool.true_eq_false, Bool.false_eq_true, FX12_setDemand, PX12_setDemand, LX12_setDemand_37, LX12_setDemand_17, m_isBus hS, m_isHour hS, m_in, k_s_354, k_f_354_0, k_f_354_1, k_f_354_3, k_f_354_6, k_f_354_8, k_f_354_9, k_f_354_10, k_f_354_11, k_f_354_12, k_f_354_13, k_f_354_14, k_f_354_15, k_f_354_16, k_f_354_17, k_f_354_18, k_f_354_19, k_f_354_20, k_f_354_21, k_f_354_22, k_f_354_24, k_f_354_25, k_f_354_30, k_f_354_31, k_s_355, k_s_356, k_s_357, k_s_358, k_s_359, k_s_360, k_s_361, k_s_362, k_s_363, k_s_364, k_s_365, k_s_366, k_s_367, k_s_368, k_s_369, k_s_370, k_s_371, k_s_372, k_s_373, k_s_374, k_s_375, k_s_376, k_s_377, k_s_378, k_s_379]
  refine ⟨fun e => ?_, fun e1 => ⟨fun e2 => ⟨fun e3 => ?_, fun e3 => ?_⟩, fun e2 => ?_⟩⟩
  · rw [if_pos (Or.inl e)] at hQ; exact fnM_t hM hQ
  · rw [if_neg (by rw [e1, e2]; simp), if_neg (by rw [e3]; simp)] at hQ
    have hB := hV.2.1.2
    have hHH := hV.1.2
    obtain ⟨c, hc, rfl⟩ := isB_t (by omega) e1
    obtain ⟨h, hh, rfl⟩ := isB_t (by omega) e2
    unfold iN at hQ
    rw [nI_clamp (by omega), nI_clamp (by omega)] at hQ
    refine m_chg hA hM hQ (fun I1 hS1 k => ?_)
    have cd := hS1.2.2.2.2.2.1 c h (by omega) (by omega)
    simp (disch := omega) only [s_ic, s_li, s_la, s_si, s_sa, s_inc, s_bin, s_un, s_dup, s_dup2, s_pop, s_if, s_if2, s_gi, s_gr, s_pi, s_pz, s_al, s_aa, s_as, s_az, s_ac, s_mx, s_mn, s_cpy, s_kp, s_ri, s_rz, s_rv, s_cv, s_cs, s_rem, s_div, az_gl, az_sl, az_kp, az_pop, az_fun, az_funX, az_pat, az_in, List.map, List.replicate, List.length, List.cons_append, List.nil_append, Option.toList, f_add, f_sub, f_mul, f_neg, c_eq, c_ne, c_lt, c_ge, c_gt, c_le, d_eq, d_ne, d_lt, d_ge, d_gt, d_le, vinT, nIclamp, nIadd, nImul, nIeq, nIle, nIlt, nIlt0, nIge0, nIgt0, nIle0, nIeq0, ltT, ltF, leT, leF, eqT, eqF, upS, upN, k_n, az_setI, az_setA, true_and, and_true, and_self, true_implies, false_implies, implies_true, not_true_eq_false, not_false_eq_true, Nat.add_zero, Nat.zero_add, Nat.reduceAdd, Nat.reduceSub, Nat.reduceMul, Nat.reduceLT, Nat.reduceLeDiff, Nat.reduceEqDiff, Nat.reducePow, reduceIte, ne_eq, false_and, and_false, exists_eq_left', or_true, true_or, or_false, false_or, nI1one, nI0one, bI0, bI1, bIor, bI_z, bI_1, Bool.not_eq_true, Bool.not_eq_false, Bool.true_eq_false, Bool.false_eq_true, cd, k_s_354, k_f_354_0, k_f_354_1, k_f_354_3, k_f_354_6, k_f_354_8, k_f_354_9, k_f_354_10, k_f_354_11, k_f_354_12, k_f_354_13, k_f_354_14, k_f_354_15, k_f_354_16, k_f_354_17, k_f_354_18, k_f_354_19, k_f_354_20, k_f_354_21, k_f_354_22, k_f_354_24, k_f_354_25, k_f_354_30, k_f_354_31, k_s_355, k_s_356, k_s_357, k_s_358, k_s_359, k_s_360, k_s_361, k_s_362, k_s_363, k_s_364, k_s_365, k_s_366, k_s_367, k_s_368, k_s_369, k_s_370, k_s_371, k_s_372, k_s_373, k_s_374, k_s_375, k_s_376, k_s_377, k_s_378, k_s_379]
    refine k _ ?_ (fun q j z => by rw [upN (by omega)])
    obtain ⟨r1, r2, r3, r4, r5, r6, r7, r8, r9, r10, r11, r12, r13, r14, r15⟩ := hS1
    have hU := hV.2.2.2.1
    have hO := hV.2.2.2.2.1
    refine ⟨?_, ?_, ?_, ?_, ?_, ?_, ?_, ⟨?_, ?_⟩, ?_, ?_, ?_, ?_, ?_, ?_, ?_⟩
    · repeat rw [upN (by omega)]
      exact r1
    · repeat rw [upN (by omega)]
      exact r2
    · repeat rw [upN (by omega)]
      exact r3
    · repeat rw [upN (by omega)]
      exact r4
    · repeat rw [upN (by omega)]
      exact r5
    · intro c' h' hc' hh'; show _ = if c' = c ∧ h' = h then z else pD A.1 c' h'; (by_cases e : c' = c ∧ h' = h; (rw [if_pos e, upS (by omega)]); (rw [if_neg e, upN (by omega)]; exact r6 c' h' hc' hh'))
    · intro h hh; repeat rw [upN (by omega)]
      exact r7 h hh
    · repeat rw [upN (by omega)]
      exact r8.1
    · repeat rw [upN (by omega)]
      exact r8.2
    · intro c hc hc2; repeat rw [upN (by omega)]
      exact r9 c hc hc2
    · intro c hc hc2; repeat rw [upN (by omega)]
      exact r10 c hc hc2
    · intro o ho; have ho' : o < pO (A.1) := ho; repeat rw [upN (by omega)]
      exact r11 o ho'
    · intro o ho; have ho' : o < pO (A.1) := ho; repeat rw [upN (by omega)]
      exact r12 o ho'
    · intro o ho; have ho' : o < pO (A.1) := ho; repeat rw [upN (by omega)]
      exact r13 o ho'
    · intro u k hu hk hk8; have hu' : u < pU (A.1) := hu; repeat rw [upN (by omega)]
      exact r14 u k hu' hk hk8
    · intro u hu; have hu' : u < pU (A.1) := hu; repeat rw [upN (by omega)]
      exact r15 u hu'
  · rw [if_neg (by rw [e1, e2]; simp), if_pos e3] at hQ; exact fnM_t hM hQ
  · rw [if_pos (Or.inr e2)] at hQ; exact fnM_t hM hQ
theorem m_setReserve {I : Nat → Nat → Int32} {R : RT} {A : AT} {y z : Int32} {Q : Option Value → az_M → Prop} (hA : AV A) (hM : MR A I) (hQ : fnM Q I R (spRes A y z)) : FX12_setReserve [.ref 354, .int y, .int z] (K0, I, R) Q := by
  have hV := hA.1
  have hS := hM.1
  unfold spRes at hQ
  simp (disch := omega) only [s_ic, s_li, s_la, s_si, s_sa, s_inc, s_bin, s_un, s_dup, s_dup2, s_pop, s_if, s_if2, s_gi, s_gr, s_pi, s_pz, s_al, s_aa, s_as, s_az, s_ac, s_mx, s_mn, s_cpy, s_kp, s_ri, s_rz, s_rv, s_cv, s_cs, s_rem, s_div, az_gl, az_sl, az_kp, az_pop, az_fun, az_funX, az_pat, az_in, List.map, List.replicate, List.length, List.cons_append, List.nil_append, Option.toList, f_add, f_sub, f_mul, f_neg, c_eq, c_ne, c_lt, c_ge, c_gt, c_le, d_eq, d_ne, d_lt, d_ge, d_gt, d_le, vinT, nIclamp, nIadd, nImul, nIeq, nIle, nIlt, nIlt0, nIge0, nIgt0, nIle0, nIeq0, ltT, ltF, leT, leF, eqT, eqF, upS, upN, k_n, az_setI, az_setA, true_and, and_true, and_self, true_implies, false_implies, implies_true, not_true_eq_false, not_false_eq_true, Nat.add_zero, Nat.zero_add, Nat.reduceAdd, Nat.reduceSub, Nat.reduceMul, Nat.reduceLT, Nat.reduceLeDiff, Nat.reduceEqDiff, Nat.reducePow, reduceIte, ne_eq, false_and, and_false, exists_eq_left', or_true, true_or, or_false, false_or, nI1one, nI0one, bI0, bI1, bIor, bI_z, bI_1, Bool.not_eq_true, Bool.not_eq_false, Bool.true_eq_false, Bool.false_eq_true, FX12_setReserve, PX12_setReserve, LX12_setReserve_29, m_isHour hS, m_in, k_s_354, k_f_354_0, k_f_354_1, k_f_354_3, k_f_354_6, k_f_354_8, k_f_354_9, k_f_354_10, k_f_354_11, k_f_354_12, k_f_354_13, k_f_354_14, k_f_354_15, k_f_354_16, k_f_354_17, k_f_354_18, k_f_354_19, k_f_354_20, k_f_354_21, k_f_354_22, k_f_354_24, k_f_354_25, k_f_354_30, k_f_354_31, k_s_355, k_s_356, k_s_357, k_s_358, k_s_359, k_s_360, k_s_361, k_s_362, k_s_363, k_s_364, k_s_365, k_s_366, k_s_367, k_s_368, k_s_369, k_s_370, k_s_371, k_s_372, k_s_373, k_s_374, k_s_375, k_s_376, k_s_377, k_s_378, k_s_379]
  refine ⟨fun e2 => ⟨fun e3 => ?_, fun e3 => ?_⟩, fun e2 => ?_⟩
  · rw [if_neg (by rw [e2]; simp), if_neg (by rw [e3]; simp)] at hQ
    have hHH := hV.1.2
    obtain ⟨h, hh, rfl⟩ := isB_t (by omega) e2
    unfold iN at hQ
    rw [nI_clamp (by omega)] at hQ
    refine m_chg hA hM hQ (fun I1 hS1 k => ?_)
    have cd := hS1.2.2.2.2.2.2.1 h (by omega)
    simp (disch := omega) only [s_ic, s_li, s_la, s_si, s_sa, s_inc, s_bin, s_un, s_dup, s_dup2, s_pop, s_if, s_if2, s_gi, s_gr, s_pi, s_pz, s_al, s_aa, s_as, s_az, s_ac, s_mx, s_mn, s_cpy, s_kp, s_ri, s_rz, s_rv, s_cv, s_cs, s_rem, s_div, az_gl, az_sl, az_kp, az_pop, az_fun, az_funX, az_pat, az_in, List.map, List.replicate, List.length, List.cons_append, List.nil_append, Option.toList, f_add, f_sub, f_mul, f_neg, c_eq, c_ne, c_lt, c_ge, c_gt, c_le, d_eq, d_ne, d_lt, d_ge, d_gt, d_le, vinT, nIclamp, nIadd, nImul, nIeq, nIle, nIlt, nIlt0, nIge0, nIgt0, nIle0, nIeq0, ltT, ltF, leT, leF, eqT, eqF, upS, upN, k_n, az_setI, az_setA, true_and, and_true, and_self, true_implies, false_implies, implies_true, not_true_eq_false, not_false_eq_true, Nat.add_zero, Nat.zero_add, Nat.reduceAdd, Nat.reduceSub, Nat.reduceMul, Nat.reduceLT, Nat.reduceLeDiff, Nat.reduceEqDiff, Nat.reducePow, reduceIte, ne_eq, false_and, and_false, exists_eq_left', or_true, true_or, or_false, false_or, nI1one, nI0one, bI0, bI1, bIor, bI_z, bI_1, Bool.not_eq_true, Bool.not_eq_false, Bool.true_eq_false, Bool.false_eq_true, cd, k_s_354, k_f_354_0, k_f_354_1, k_f_354_3, k_f_354_6, k_f_354_8, k_f_354_9, k_f_354_10, k_f_354_11, k_f_354_12, k_f_354_13, k_f_354_14, k_f_354_15, k_f_354_16, k_f_354_17, k_f_354_18, k_f_354_19, k_f_354_20, k_f_354_21, k_f_354_22, k_f_354_24, k_f_354_25, k_f_354_30, k_f_354_31, k_s_355, k_s_356, k_s_357, k_s_358, k_s_359, k_s_360, k_s_361, k_s_362, k_s_363, k_s_364, k_s_365, k_s_366, k_s_367, k_s_368, k_s_369, k_s_370, k_s_371, k_s_372, k_s_373, k_s_374, k_s_375, k_s_376, k_s_377, k_s_378, k_s_379]
    refine k _ ?_ (fun q j z => by rw [upN (by omega)])
    obtain ⟨r1, r2, r3, r4, r5, r6, r7, r8, r9, r10, r11, r12, r13, r14, r15⟩ := hS1
    have hU := hV.2.2.2.1
    have hO := hV.2.2.2.2.1
    refine ⟨?_, ?_, ?_, ?_, ?_, ?_, ?_, ⟨?_, ?_⟩, ?_, ?_, ?_, ?_, ?_, ?_, ?_⟩
    · repeat rw [upN (by omega)]
      exact r1
    · repeat rw [upN (by omega)]
      exact r2
    · repeat rw [upN (by omega)]
      exact r3
    · repeat rw [upN (by omega)]
      exact r4
    · repeat rw [upN (by omega)]
      exact r5
    · intro c h hc hh; repeat rw [upN (by omega)]
      exact r6 c h hc hh
    · intro h' hh'; show _ = if h' = h then z else pR A.1 h'; (by_cases e : h' = h; (rw [if_pos e, upS (by omega)]); (rw [if_neg e, upN (by omega)]; exact r7 h' hh'))
    · repeat rw [upN (by omega)]
      exact r8.1
    · repeat rw [upN (by omega)]
      exact r8.2
    · intro c hc hc2; repeat rw [upN (by omega)]
      exact r9 c hc hc2
    · intro c hc hc2; repeat rw [upN (by omega)]
      exact r10 c hc hc2
    · intro o ho; have ho' : o < pO (A.1) := ho; repeat rw [upN (by omega)]
      exact r11 o ho'
    · intro o ho; have ho' : o < pO (A.1) := ho; repeat rw [upN (by omega)]
      exact r12 o ho'
    · intro o ho; have ho' : o < pO (A.1) := ho; repeat rw [upN (by omega)]
      exact r13 o ho'
    · intro u k hu hk hk8; have hu' : u < pU (A.1) := hu; repeat rw [upN (by omega)]
      exact r14 u k hu' hk hk8
    · intro u hu; have hu' : u < pU (A.1) := hu; repeat rw [upN (by omega)]
      exact r15 u hu'
  · rw [if_neg (by rw [e2]; simp), if_pos e3] at hQ; exact fnM_t hM hQ
  · rw [if_pos e2] at hQ; exact fnM_t hM hQ
theorem m_setPolicy {I : Nat → Nat → Int32} {R : RT} {A : AT} {z : Int32} {Q : Option Value → az_M → Prop} (hA : AV A) (hM : MR A I) (hQ : fnM Q I R (spPol A z)) : FX12_setPolicy [.ref 354, .int z] (K0, I, R) Q := by
  have hV := hA.1
  have hS := hM.1
  unfold spPol at hQ
  simp (disch := omega) only [s_ic, s_li, s_la, s_si, s_sa, s_inc, s_bin, s_un, s_dup, s_dup2, s_pop, s_if, s_if2, s_gi, s_gr, s_pi, s_pz, s_al, s_aa, s_as, s_az, s_ac, s_mx, s_mn, s_cpy, s_kp, s_ri, s_rz, s_rv, s_cv, s_cs, s_rem, s_div, az_gl, az_sl, az_kp, az_pop, az_fun, az_funX, az_pat, az_in, List.map, List.replicate, List.length, List.cons_append, List.nil_append, Option.toList, f_add, f_sub, f_mul, f_neg, c_eq, c_ne, c_lt, c_ge, c_gt, c_le, d_eq, d_ne, d_lt, d_ge, d_gt, d_le, vinT, nIclamp, nIadd, nImul, nIeq, nIle, nIlt, nIlt0, nIge0, nIgt0, nIle0, nIeq0, ltT, ltF, leT, leF, eqT, eqF, upS, upN, k_n, az_setI, az_setA, true_and, and_true, and_self, true_implies, false_implies, implies_true, not_true_eq_false, not_false_eq_true, Nat.add_zero, Nat.zero_add, Nat.reduceAdd, Nat.reduceSub, Nat.reduceMul, Nat.reduceLT, Nat.reduceLeDiff, Nat.reduceEqDiff, Nat.reducePow, reduceIte, ne_eq, false_and, and_false, exists_eq_left', or_true, true_or, or_false, false_or, nI1one, nI0one, bI0, bI1, bIor, bI_z, bI_1, Bool.not_eq_true, Bool.not_eq_false, Bool.true_eq_false, Bool.false_eq_true, FX12_setPolicy, PX12_setPolicy, LX12_setPolicy_15, m_in, k_s_354, k_f_354_0, k_f_354_1, k_f_354_3, k_f_354_6, k_f_354_8, k_f_354_9, k_f_354_10, k_f_354_11, k_f_354_12, k_f_354_13, k_f_354_14, k_f_354_15, k_f_354_16, k_f_354_17, k_f_354_18, k_f_354_19, k_f_354_20, k_f_354_21, k_f_354_22, k_f_354_24, k_f_354_25, k_f_354_30, k_f_354_31, k_s_355, k_s_356, k_s_357, k_s_358, k_s_359, k_s_360, k_s_361, k_s_362, k_s_363, k_s_364, k_s_365, k_s_366, k_s_367, k_s_368, k_s_369, k_s_370, k_s_371, k_s_372, k_s_373, k_s_374, k_s_375, k_s_376, k_s_377, k_s_378, k_s_379]
  refine ⟨fun e3 => ?_, fun e3 => ?_⟩
  · rw [if_pos e3] at hQ; exact fnM_t hM hQ
  · rw [if_neg (by rw [e3]; simp)] at hQ
    obtain ⟨h, -, hh, rfl⟩ := inW_t (by omega) (by omega) e3
    unfold iN at hQ
    rw [nI_clamp (by omega)] at hQ
    refine m_chg hA hM hQ (fun I1 hS1 k => ?_)
    have cd := hS1.2.2.2.2.1
    simp (disch := omega) only [s_ic, s_li, s_la, s_si, s_sa, s_inc, s_bin, s_un, s_dup, s_dup2, s_pop, s_if, s_if2, s_gi, s_gr, s_pi, s_pz, s_al, s_aa, s_as, s_az, s_ac, s_mx, s_mn, s_cpy, s_kp, s_ri, s_rz, s_rv, s_cv, s_cs, s_rem, s_div, az_gl, az_sl, az_kp, az_pop, az_fun, az_funX, az_pat, az_in, List.map, List.replicate, List.length, List.cons_append, List.nil_append, Option.toList, f_add, f_sub, f_mul, f_neg, c_eq, c_ne, c_lt, c_ge, c_gt, c_le, d_eq, d_ne, d_lt, d_ge, d_gt, d_le, vinT, nIclamp, nIadd, nImul, nIeq, nIle, nIlt, nIlt0, nIge0, nIgt0, nIle0, nIeq0, ltT, ltF, leT, leF, eqT, eqF, upS, upN, k_n, az_setI, az_setA, true_and, and_true, and_self, true_implies, false_implies, implies_true, not_true_eq_false, not_false_eq_true, Nat.add_zero, Nat.zero_add, Nat.reduceAdd, Nat.reduceSub, Nat.reduceMul, Nat.reduceLT, Nat.reduceLeDiff, Nat.reduceEqDiff, Nat.reducePow, reduceIte, ne_eq, false_and, and_false, exists_eq_left', or_true, true_or, or_false, false_or, nI1one, nI0one, bI0, bI1, bIor, bI_z, bI_1, Bool.not_eq_true, Bool.not_eq_false, Bool.true_eq_false, Bool.false_eq_true, cd, k_s_354, k_f_354_0, k_f_354_1, k_f_354_3, k_f_354_6, k_f_354_8, k_f_354_9, k_f_354_10, k_f_354_11, k_f_354_12, k_f_354_13, k_f_354_14, k_f_354_15, k_f_354_16, k_f_354_17, k_f_354_18, k_f_354_19, k_f_354_20, k_f_354_21, k_f_354_22, k_f_354_24, k_f_354_25, k_f_354_30, k_f_354_31, k_s_355, k_s_356, k_s_357, k_s_358, k_s_359, k_s_360, k_s_361, k_s_362, k_s_363, k_s_364, k_s_365, k_s_366, k_s_367, k_s_368, k_s_369, k_s_370, k_s_371, k_s_372, k_s_373, k_s_374, k_s_375, k_s_376, k_s_377, k_s_378, k_s_379]
    refine k _ ?_ (fun q j z => by rw [upN (by omega)])
    obtain ⟨r1, r2, r3, r4, r5, r6, r7, r8, r9, r10, r11, r12, r13, r14, r15⟩ := hS1
    have hU := hV.2.2.2.1
    have hO := hV.2.2.2.2.1
    refine ⟨?_, ?_, ?_, ?_, ?_, ?_, ?_, ⟨?_, ?_⟩, ?_, ?_, ?_, ?_, ?_, ?_, ?_⟩
    · repeat rw [upN (by omega)]
      exact r1
    · repeat rw [upN (by omega)]
      exact r2
    · repeat rw [upN (by omega)]
      exact r3
    · repeat rw [upN (by omega)]
      exact r4
    · rw [upS ⟨rfl, rfl⟩]; rfl
    · intro c h hc hh; repeat rw [upN (by omega)]
      exact r6 c h hc hh
    · intro h hh; repeat rw [upN (by omega)]
      exact r7 h hh
    · repeat rw [upN (by omega)]
      exact r8.1
    · repeat rw [upN (by omega)]
      exact r8.2
    · intro c hc hc2; repeat rw [upN (by omega)]
      exact r9 c hc hc2
    · intro c hc hc2; repeat rw [upN (by omega)]
      exact r10 c hc hc2
    · intro o ho; have ho' : o < pO (A.1) := ho; repeat rw [upN (by omega)]
      exact r11 o ho'
    · intro o ho; have ho' : o < pO (A.1) := ho; repeat rw [upN (by omega)]
      exact r12 o ho'
    · intro o ho; have ho' : o < pO (A.1) := ho; repeat rw [upN (by omega)]
      exact r13 o ho'
    · intro u k hu hk hk8; have hu' : u < pU (A.1) := hu; repeat rw [upN (by omega)]
      exact r14 u k hu' hk hk8
    · intro u hu; have hu' : u < pU (A.1) := hu; repeat rw [upN (by omega)]
      exact r15 u hu'
theorem isB_cases {c : Nat} {y : Int32} (hc : c < 1000) : (isB c y = true ∧ ¬ y < 0 ∧ ¬ nI c ≤ y) ∨ (isB c y = false ∧ (y < 0 ∨ nI c ≤ y)) := by
  cases h : isB c y
  · refine Or.inr ⟨rfl, ?_⟩
    by_cases h1 : y < 0
    · exact Or.inl h1
    · by_cases h2 : nI c ≤ y
      · exact Or.inr h2
      · have q1 := Int32.lt_iff_toInt_lt.mp (Int32.not_le.mp h2)
        have q2 := Int32.le_iff_toInt_le.mp (Int32.not_lt.mp h1)
        rw [nI_int (by omega)] at q1
        have q3 : (0 : Int32).toInt = 0 := rfl
        have hy : y = nI y.toInt.toNat := by
          apply Int32.toInt_inj.mp
          rw [nI_int (by omega)]
          omega
        rw [hy, isB_n hc (by omega)] at h
        exact absurd h (by decide)
  · obtain ⟨p, hp, rfl⟩ := isB_t hc h
    refine Or.inl ⟨rfl, nI_pos (by omega), ?_⟩
    rw [nIle ⟨by omega, by omega⟩]; omega
theorem m_setLine {I : Nat → Nat → Int32} {R : RT} {A : AT} {x y z : Int32} {Q : Option Value → az_M → Prop} (hA : AV A) (hM : MR A I) (hQ : fnM Q I R (spLine A x y z)) : FX12_setLine [.ref 354, .int x, .int y, .int z] (K0, I, R) Q := by
  have hV := hA.1
  have hS := hM.1
  unfold spLine at hQ
  simp (disch := omega) only [s_ic, s_li, s_la, s_si, s_sa, s_inc, s_bin, s_un, s_dup, s_dup2, s_pop, s_if, s_if2, s_gi, s_gr, s_pi, s_pz, s_al, s_aa, s_as, s_az, s_ac, s_mx, s_mn, s_cpy, s_kp, s_ri, s_rz, s_rv, s_cv, s_cs, s_rem, s_div, az_gl, az_sl, az_kp, az_pop, az_fun, az_funX, az_pat, az_in, List.map, List.replicate, List.length, List.cons_append, List.nil_append, Option.toList, f_add, f_sub, f_mul, f_neg, c_eq, c_ne, c_lt, c_ge, c_gt, c_le, d_eq, d_ne, d_lt, d_ge, d_gt, d_le, vinT, nIclamp, nIadd, nImul, nIeq, nIle, nIlt, nIlt0, nIge0, nIgt0, nIle0, nIeq0, ltT, ltF, leT, leF, eqT, eqF, upS, upN, k_n, az_setI, az_setA, true_and, and_true, and_self, true_implies, false_implies, implies_true, not_true_eq_false, not_false_eq_true, Nat.add_zero, Nat.zero_add, Nat.reduceAdd, Nat.reduceSub, Nat.reduceMul, Nat.reduceLT, Nat.reduceLeDiff, Nat.reduceEqDiff, Nat.reducePow, reduceIte, ne_eq, false_and, and_false, exists_eq_left', or_true, true_or, or_false, false_or, nI1one, nI0one, bI0, bI1, bIor, bI_z, bI_1, Bool.not_eq_true, Bool.not_eq_false, Bool.true_eq_false, Bool.false_eq_true, FX12_setLine, PX12_setLine, LX12_setLine_44, LX12_setLine_24, m_isBus hS, m_in, k_s_354, k_f_354_0, k_f_354_1, k_f_354_3, k_f_354_6, k_f_354_8, k_f_354_9, k_f_354_10, k_f_354_11, k_f_354_12, k_f_354_13, k_f_354_14, k_f_354_15, k_f_354_16, k_f_354_17, k_f_354_18, k_f_354_19, k_f_354_20, k_f_354_21, k_f_354_22, k_f_354_24, k_f_354_25, k_f_354_30, k_f_354_31, k_s_355, k_s_356, k_s_357, k_s_358, k_s_359, k_s_360, k_s_361, k_s_362, k_s_363, k_s_364, k_s_365, k_s_366, k_s_367, k_s_368, k_s_369, k_s_370, k_s_371, k_s_372, k_s_373, k_s_374, k_s_375, k_s_376, k_s_377, k_s_378, k_s_379]
  refine ⟨fun e => ?_, fun e1 => ⟨fun e => ?_, fun e2 => ?_⟩⟩
  · rw [if_pos (Or.inl e)] at hQ; exact fnM_t hM hQ
  · rw [if_pos (Or.inr (Or.inl e))] at hQ; exact fnM_t hM hQ
  · have hB := hV.2.1.2
    obtain ⟨c, hc, rfl⟩ := isB_t (by omega) e1
    have hc0 : c ≠ 0 := fun z => e2 (by rw [z]; rfl)
    rw [show inW (nI 0) (nI c - nI 1) y = isB c y from rfl]
    rcases isB_cases (c := c) (y := y) (by omega) with ⟨q0, q1, q2⟩ | ⟨q0, q1⟩
    · obtain ⟨p, hp, rfl⟩ := isB_t (by omega) q0
      rw [q0]
      refine ⟨fun _ => ⟨fun e5 => ?_, fun e5 => ?_⟩, fun z => absurd z (by decide)⟩
      · rw [if_neg (by rw [e1]; simp only [Bool.true_eq_false, false_or]; intro z; rcases z with z | z | z; exact e2 z; exact q1 z; exact q2 z), if_neg (by rw [e5]; simp)] at hQ
        unfold iN at hQ
        rw [nI_clamp (by omega), nI_clamp (by omega)] at hQ
        refine m_chg hA hM hQ (fun I1 hS1 k => ?_)
        have cd := hS1.2.2.2.2.2.2.2.2.2.1 c (by omega) (by omega)
        simp (disch := omega) only [s_ic, s_li, s_la, s_si, s_sa, s_inc, s_bin, s_un, s_dup, s_dup2, s_pop, s_if, s_if2, s_gi, s_gr, s_pi, s_pz, s_al, s_aa, s_as, s_az, s_ac, s_mx, s_mn, s_cpy, s_kp, s_ri, s_rz, s_rv, s_cv, s_cs, s_rem, s_div, az_gl, az_sl, az_kp, az_pop, az_fun, az_funX, az_pat, az_in, List.map, List.replicate, List.length, List.cons_append, List.nil_append, Option.toList, f_add, f_sub, f_mul, f_neg, c_eq, c_ne, c_lt, c_ge, c_gt, c_le, d_eq, d_ne, d_lt, d_ge, d_gt, d_le, vinT, nIclamp, nIadd, nImul, nIeq, nIle, nIlt, nIlt0, nIge0, nIgt0, nIle0, nIeq0, ltT, ltF, leT, leF, eqT, eqF, upS, upN, k_n, az_setI, az_setA, true_and, and_true, and_self, true_implies, false_implies, implies_true, not_true_eq_false, not_false_eq_true, Nat.add_zero, Nat.zero_add, Nat.reduceAdd, Nat.reduceSub, Nat.reduceMul, Nat.reduceLT, Nat.reduceLeDiff, Nat.reduceEqDiff, Nat.reducePow, reduceIte, ne_eq, false_and, and_false, exists_eq_left', or_true, true_or, or_false, false_or, nI1one, nI0one, bI0, bI1, bIor, bI_z, bI_1, Bool.not_eq_true, Bool.not_eq_false, Bool.true_eq_false, Bool.false_eq_true, cd, k_s_354, k_f_354_0, k_f_354_1, k_f_354_3, k_f_354_6, k_f_354_8, k_f_354_9, k_f_354_10, k_f_354_11, k_f_354_12, k_f_354_13, k_f_354_14, k_f_354_15, k_f_354_16, k_f_354_17, k_f_354_18, k_f_354_19, k_f_354_20, k_f_354_21, k_f_354_22, k_f_354_24, k_f_354_25, k_f_354_30, k_f_354_31, k_s_355, k_s_356, k_s_357, k_s_358, k_s_359, k_s_360, k_s_361, k_s_362, k_s_363, k_s_364, k_s_365, k_s_366, k_s_367, k_s_368, k_s_369, k_s_370, k_s_371, k_s_372, k_s_373, k_s_374, k_s_375, k_s_376, k_s_377, k_s_378, k_s_379]
        refine k _ ?_ (fun q j z => by rw [upN (by omega), upN (by omega)])
        obtain ⟨r1, r2, r3, r4, r5, r6, r7, r8, r9, r10, r11, r12, r13, r14, r15⟩ := hS1
        have hU := hV.2.2.2.1
        have hO := hV.2.2.2.2.1
        refine ⟨?_, ?_, ?_, ?_, ?_, ?_, ?_, ⟨?_, ?_⟩, ?_, ?_, ?_, ?_, ?_, ?_, ?_⟩
        · repeat rw [upN (by omega)]
          exact r1
        · repeat rw [upN (by omega)]
          exact r2
        · repeat rw [upN (by omega)]
          exact r3
        · repeat rw [upN (by omega)]
          exact r4
        · repeat rw [upN (by omega)]
          exact r5
        · intro c h hc hh; repeat rw [upN (by omega)]
          exact r6 c h hc hh
        · intro h hh; repeat rw [upN (by omega)]
          exact r7 h hh
        · repeat rw [upN (by omega)]
          exact r8.1
        · repeat rw [upN (by omega)]
          exact r8.2
        · intro c' q1 q2; show _ = nI (if c' = c then p else pPar A.1 c'); (by_cases e : c' = c; (rw [if_pos e, upN (by omega), upS (by omega)]); (rw [if_neg e, upN (by omega), upN (by omega)]; exact r9 c' q1 q2))
        · intro c' q1 q2; show _ = if c' = c then z else pL A.1 c'; (by_cases e : c' = c; (rw [if_pos e, upS (by omega)]); (rw [if_neg e, upN (by omega), upN (by omega)]; exact r10 c' q1 q2))
        · intro o ho; have ho' : o < pO (A.1) := ho; repeat rw [upN (by omega)]
          exact r11 o ho'
        · intro o ho; have ho' : o < pO (A.1) := ho; repeat rw [upN (by omega)]
          exact r12 o ho'
        · intro o ho; have ho' : o < pO (A.1) := ho; repeat rw [upN (by omega)]
          exact r13 o ho'
        · intro u k hu hk hk8; have hu' : u < pU (A.1) := hu; repeat rw [upN (by omega)]
          exact r14 u k hu' hk hk8
        · intro u hu; have hu' : u < pU (A.1) := hu; repeat rw [upN (by omega)]
          exact r15 u hu'
      · rw [if_neg (by rw [e1]; simp only [Bool.true_eq_false, false_or]; intro z; rcases z with z | z | z; exact e2 z; exact q1 z; exact q2 z), if_pos e5] at hQ; exact fnM_t hM hQ
    · rw [q0]
      refine ⟨fun z => absurd z (by decide), fun _ => ?_⟩
      rw [if_pos (Or.inr (Or.inr q1))] at hQ; exact fnM_t hM hQ
theorem m_addOutage {I : Nat → Nat → Int32} {R : RT} {A : AT} {x y z : Int32} {Q : Option Value → az_M → Prop} (hA : AV A) (hM : MR A I) (hQ : fnM Q I R (spAddO A x y z)) : FX12_addOutage [.ref 354, .int x, .int y, .int z] (K0, I, R) Q := by
  have hV := hA.1
  have hS := hM.1
  have hOO := hV.2.2.2.2.1
  unfold spAddO at hQ
  simp (disch := omega) only [s_ic, s_li, s_la, s_si, s_sa, s_inc, s_bin, s_un, s_dup, s_dup2, s_pop, s_if, s_if2, s_gi, s_gr, s_pi, s_pz, s_al, s_aa, s_as, s_az, s_ac, s_mx, s_mn, s_cpy, s_kp, s_ri, s_rz, s_rv, s_cv, s_cs, s_rem, s_div, az_gl, az_sl, az_kp, az_pop, az_fun, az_funX, az_pat, az_in, List.map, List.replicate, List.length, List.cons_append, List.nil_append, Option.toList, f_add, f_sub, f_mul, f_neg, c_eq, c_ne, c_lt, c_ge, c_gt, c_le, d_eq, d_ne, d_lt, d_ge, d_gt, d_le, vinT, nIclamp, nIadd, nImul, nIeq, nIle, nIlt, nIlt0, nIge0, nIgt0, nIle0, nIeq0, ltT, ltF, leT, leF, eqT, eqF, upS, upN, k_n, az_setI, az_setA, true_and, and_true, and_self, true_implies, false_implies, implies_true, not_true_eq_false, not_false_eq_true, Nat.add_zero, Nat.zero_add, Nat.reduceAdd, Nat.reduceSub, Nat.reduceMul, Nat.reduceLT, Nat.reduceLeDiff, Nat.reduceEqDiff, Nat.reducePow, reduceIte, ne_eq, false_and, and_false, exists_eq_left', or_true, true_or, or_false, false_or, nI1one, nI0one, bI0, bI1, bIor, bI_z, bI_1, Bool.not_eq_true, Bool.not_eq_false, Bool.true_eq_false, Bool.false_eq_true, FX12_addOutage, PX12_addOutage, LX12_addOutage_51, LX12_addOutage_17, m_isUnit hS, m_isHour hS, m_in, hS.2.2.2.1, k_s_354, k_f_354_0, k_f_354_1, k_f_354_3, k_f_354_6, k_f_354_8, k_f_354_9, k_f_354_10, k_f_354_11, k_f_354_12, k_f_354_13, k_f_354_14, k_f_354_15, k_f_354_16, k_f_354_17, k_f_354_18, k_f_354_19, k_f_354_20, k_f_354_21, k_f_354_22, k_f_354_24, k_f_354_25, k_f_354_30, k_f_354_31, k_s_355, k_s_356, k_s_357, k_s_358, k_s_359, k_s_360, k_s_361, k_s_362, k_s_363, k_s_364, k_s_365, k_s_366, k_s_367, k_s_368, k_s_369, k_s_370, k_s_371, k_s_372, k_s_373, k_s_374, k_s_375, k_s_376, k_s_377, k_s_378, k_s_379]
  refine ⟨fun e => ?_, fun e1 => ⟨fun e2 => ⟨fun e3 => ⟨fun e4 => ?_, fun e4 => ?_⟩, fun e3 => ?_⟩, fun e2 => ?_⟩⟩
  · rw [if_pos (Or.inl e)] at hQ; exact fnM_t hM hQ
  · rw [if_neg (by rw [e1, e2]; simp), if_neg (by rw [e3]; simp), if_neg (by omega)] at hQ
    have hUU := hV.2.2.2.1
    have hHH := hV.1.2
    obtain ⟨u, hu, rfl⟩ := isB_t (by omega) e1
    obtain ⟨h, hh, rfl⟩ := isB_t (by omega) e2
    obtain ⟨r, hr1, hr2, rfl⟩ := inW_t (by omega) (by omega) e3
    unfold iN at hQ
    rw [nI_clamp (by omega), nI_clamp (by omega), nI_clamp (by omega)] at hQ
    refine m_chg hA hM hQ (fun I1 hS1 k => ?_)
    simp (disch := omega) only [s_ic, s_li, s_la, s_si, s_sa, s_inc, s_bin, s_un, s_dup, s_dup2, s_pop, s_if, s_if2, s_gi, s_gr, s_pi, s_pz, s_al, s_aa, s_as, s_az, s_ac, s_mx, s_mn, s_cpy, s_kp, s_ri, s_rz, s_rv, s_cv, s_cs, s_rem, s_div, az_gl, az_sl, az_kp, az_pop, az_fun, az_funX, az_pat, az_in, List.map, List.replicate, List.length, List.cons_append, List.nil_append, Option.toList, f_add, f_sub, f_mul, f_neg, c_eq, c_ne, c_lt, c_ge, c_gt, c_le, d_eq, d_ne, d_lt, d_ge, d_gt, d_le, vinT, nIclamp, nIadd, nImul, nIeq, nIle, nIlt, nIlt0, nIge0, nIgt0, nIle0, nIeq0, ltT, ltF, leT, leF, eqT, eqF, upS, upN, k_n, az_setI, az_setA, true_and, and_true, and_self, true_implies, false_implies, implies_true, not_true_eq_false, not_false_eq_true, Nat.add_zero, Nat.zero_add, Nat.reduceAdd, Nat.reduceSub, Nat.reduceMul, Nat.reduceLT, Nat.reduceLeDiff, Nat.reduceEqDiff, Nat.reducePow, reduceIte, ne_eq, false_and, and_false, exists_eq_left', or_true, true_or, or_false, false_or, nI1one, nI0one, bI0, bI1, bIor, bI_z, bI_1, Bool.not_eq_true, Bool.not_eq_false, Bool.true_eq_false, Bool.false_eq_true, hS1.2.2.2.1, k_s_354, k_f_354_0, k_f_354_1, k_f_354_3, k_f_354_6, k_f_354_8, k_f_354_9, k_f_354_10, k_f_354_11, k_f_354_12, k_f_354_13, k_f_354_14, k_f_354_15, k_f_354_16, k_f_354_17, k_f_354_18, k_f_354_19, k_f_354_20, k_f_354_21, k_f_354_22, k_f_354_24, k_f_354_25, k_f_354_30, k_f_354_31, k_s_355, k_s_356, k_s_357, k_s_358, k_s_359, k_s_360, k_s_361, k_s_362, k_s_363, k_s_364, k_s_365, k_s_366, k_s_367, k_s_368, k_s_369, k_s_370, k_s_371, k_s_372, k_s_373, k_s_374, k_s_375, k_s_376, k_s_377, k_s_378, k_s_379]
    refine k _ ?_ (fun q j z => by rw [upN (by omega), upN (by omega), upN (by omega), upN (by omega)])
    obtain ⟨r1, r2, r3, r4, r5, r6, r7, r8, r9, r10, r11, r12, r13, r14, r15⟩ := hS1
    have hU := hV.2.2.2.1
    have hO := hV.2.2.2.2.1
    refine ⟨?_, ?_, ?_, ?_, ?_, ?_, ?_, ⟨?_, ?_⟩, ?_, ?_, ?_, ?_, ?_, ?_, ?_⟩
    · repeat rw [upN (by omega)]
      exact r1
    · repeat rw [upN (by omega)]
      exact r2
    · repeat rw [upN (by omega)]
      exact r3
    · rw [upS ⟨rfl, rfl⟩]; rfl
    · repeat rw [upN (by omega)]
      exact r5
    · intro c h hc hh; repeat rw [upN (by omega)]
      exact r6 c h hc hh
    · intro h hh; repeat rw [upN (by omega)]
      exact r7 h hh
    · repeat rw [upN (by omega)]
      exact r8.1
    · repeat rw [upN (by omega)]
      exact r8.2
    · intro c hc hc2; repeat rw [upN (by omega)]
      exact r9 c hc hc2
    · intro c hc hc2; repeat rw [upN (by omega)]
      exact r10 c hc hc2
    · intro o ho; have ho' : o < pO A.1 + 1 := ho; show _ = nI (if o = pO A.1 then (u, h, r) else pX A.1 o).1; (by_cases e : o = pO A.1; (rw [if_pos e, upN (by omega), upN (by omega), upN (by omega), upS (by omega)]); (rw [if_neg e, upN (by omega), upN (by omega), upN (by omega), upN (by omega)]; exact r11 o (by omega)))
    · intro o ho; have ho' : o < pO A.1 + 1 := ho; show _ = nI (if o = pO A.1 then (u, h, r) else pX A.1 o).2.1; (by_cases e : o = pO A.1; (rw [if_pos e, upN (by omega), upN (by omega), upS (by omega)]); (rw [if_neg e, upN (by omega), upN (by omega), upN (by omega), upN (by omega)]; exact r12 o (by omega)))
    · intro o ho; have ho' : o < pO A.1 + 1 := ho; show _ = nI (if o = pO A.1 then (u, h, r) else pX A.1 o).2.2; (by_cases e : o = pO A.1; (rw [if_pos e, upN (by omega), upS (by omega)]); (rw [if_neg e, upN (by omega), upN (by omega), upN (by omega), upN (by omega)]; exact r13 o (by omega)))
    · intro u k hu hk hk8; have hu' : u < pU (A.1) := hu; repeat rw [upN (by omega)]
      exact r14 u k hu' hk hk8
    · intro u hu; have hu' : u < pU (A.1) := hu; repeat rw [upN (by omega)]
      exact r15 u hu'
  · rw [if_neg (by rw [e1, e2]; simp), if_neg (by rw [e3]; simp), if_pos (by omega)] at hQ; exact fnM_t hM hQ
  · rw [if_neg (by rw [e1, e2]; simp), if_pos e3] at hQ; exact fnM_t hM hQ
  · rw [if_pos (Or.inr e2)] at hQ; exact fnM_t hM hQ
