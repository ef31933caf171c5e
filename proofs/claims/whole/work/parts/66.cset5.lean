set_option maxRecDepth 100000
set_option maxHeartbeats 2000000
theorem bt_nI {n i : Nat} (hi : i < 32) : bt (nI n) i = n.testBit i := by
  show (BitVec.ofNat 32 n).getLsbD i = _
  rw [BitVec.getLsbD_ofNat, decide_eq_true hi, Bool.true_and]
theorem shl1 : ∀ f, f < 25 → nI 1 <<< (nI f &&& 31) = nI (2 ^ f) := by decide +kernel
theorem hm_eq {f t : Nat} (h : f ≤ t) (ht : t < 24) : hmM f t = nI ((2 ^ (t + 1 - f) - 1) <<< f) := by
  unfold hmM
  rw [shl1 _ (by omega), shl1 _ (by omega), nIsub (Nat.pow_le_pow_right (by decide) (by omega)), Nat.shiftLeft_eq, Nat.sub_mul, ← Nat.pow_add, Nat.one_mul, show t + 1 - f + f = t + 1 by omega]
theorem hm_bt {f t i : Nat} (h : f ≤ t) (ht : t < 24) (hi : i < 32) : bt (hmM f t) i = (decide (f ≤ i) && decide (i ≤ t)) := by
  rw [hm_eq h ht, bt_nI hi, Nat.testBit_shiftLeft, Nat.testBit_two_pow_sub_one]
  by_cases e : f ≤ i
  · rw [decide_eq_true e, Bool.true_and, Bool.true_and]
    exact decide_eq_decide.mpr (by omega)
  · rw [decide_eq_false e]; rfl
theorem cm_bt {p : Int32} {f t i : Nat} {on : Bool} (h : f ≤ t) (ht : t < 24) (hi : i < 32) : bt (cmM p f t on) i = if f ≤ i ∧ i ≤ t then on else bt p i := by
  unfold cmM
  cases on
  · rw [if_neg (by decide), b_and, b_xor, hm_bt h ht hi, b_m1 i hi]
    by_cases e : f ≤ i ∧ i ≤ t
    · rw [if_pos e, decide_eq_true e.1, decide_eq_true e.2]; simp
    · rw [if_neg e]
      by_cases e1 : f ≤ i
      · rw [decide_eq_false (fun z => e ⟨e1, z⟩)]; simp
      · rw [decide_eq_false e1]; simp
  · rw [if_pos rfl, b_or, hm_bt h ht hi]
    by_cases e : f ≤ i ∧ i ≤ t
    · rw [if_pos e, decide_eq_true e.1, decide_eq_true e.2]; simp
    · rw [if_neg e]
      by_cases e1 : f ≤ i
      · rw [decide_eq_false (fun z => e ⟨e1, z⟩)]; simp
      · rw [decide_eq_false e1]; simp
theorem VS_setP1 {S : PS} {u : Nat} {p : Int32} (hV : VS S) (hp : ∀ i, pH S ≤ i → bt p i = false) : VS (setP1 S u p) := by
  refine ⟨hV.1, hV.2.1, hV.2.2.1, hV.2.2.2.1, hV.2.2.2.2.1, fun u' hu' => ?_, hV.2.2.2.2.2.2⟩
  obtain ⟨v1, v2, v3, v4, v5, v6, v7, v8, v9, v10, v11, v12, v13, v14, v15, v16⟩ := hV.2.2.2.2.2.1 u' hu'
  have fC : ∀ k', k' ≠ 13 → pT (setP1 S u p) u' k' = pT S u' k' := by
    intro k' z
    show (if _ then _ else _) = _
    rw [if_neg (fun q => z q.2)]
  refine ⟨v1, by rw [fC 0 (by decide)]; exact v2, by rw [fC 1 (by decide)]; exact v3, by rw [fC 2 (by decide)]; exact v4, by rw [fC 3 (by decide)]; exact v5, by rw [fC 4 (by decide)]; exact v6, by rw [fC 5 (by decide)]; exact v7, by rw [fC 6 (by decide)]; exact v8, by rw [fC 6 (by decide)]; exact v9, by rw [fC 6 (by decide), fC 7 (by decide), fC 9 (by decide), fC 10 (by decide)]; exact v10, by rw [fC 9 (by decide)]; exact v11, by rw [fC 10 (by decide)]; exact v12, by rw [fC 9 (by decide), fC 10 (by decide)]; exact v13, by rw [fC 11 (by decide)]; exact v14, by rw [fC 12 (by decide)]; exact v15, fun i hi => ?_⟩
  show bt (if u' = u ∧ 13 = 13 then p else pT S u' 13) i = false
  by_cases e : u' = u
  · rw [if_pos ⟨e, rfl⟩]; exact hp i hi
  · rw [if_neg (fun q => e q.1)]; exact v16 i hi
theorem cm_hi {S : PS} {u f t : Nat} {on : Bool} (hV : VS S) (hu : u < pU S) (h : f ≤ t) (ht : t < pH S) : ∀ i, pH S ≤ i → bt (cmM (pT S u 13) f t on) i = false := by
  intro i hi
  have hH := hV.1.2
  rcases Nat.lt_or_ge i 32 with q | q
  · rw [cm_bt h (by omega) q, if_neg (by omega)]
    exact (hV.2.2.2.2.2.1 u hu).2.2.2.2.2.2.2.2.2.2.2.2.2.2.2 i hi
  · exact b_big q
theorem w_commit {I : Nat → Nat → Int32} {R : RT} {A : AT} {x y z : Int32} {on : Bool} {Q : Option Value → az_M → Prop} {Xs : String → az_M → Prop} (hC : CR A I)
    (hQ : ∀ I', CR (spCom A x y z on).2.2 I' → (∀ q j, 353 < q → I' q j = I q j) → fnC [eIX, eIA] Q Xs (spCom A x y z on) (K0, I', R)) : FX11_commit [.ref 0, .int x, .int y, .int z, .int (bI on)] (K0, I, R) Q Xs := by
  have hC0 := hC
  obtain ⟨hV, hS, hH, hsv, hT, st, hst, hout⟩ := hC
  have hUU := hV.2.2.2.1
  have hHH := hV.1.2
  simp (disch := omega) only [s_ic, s_li, s_la, s_si, s_sa, s_inc, s_bin, s_un, s_dup, s_dup2, s_pop, s_if, s_if2, s_gi, s_gr, s_pi, s_pz, s_al, s_aa, s_as, s_az, s_ac, s_mx, s_mn, s_cpy, s_kp, s_ri, s_rz, s_rv, s_cv, s_cs, s_rem, s_div, az_gl, az_sl, az_kp, az_pop, az_fun, az_funX, az_pat, az_in, List.map, List.replicate, List.length, List.cons_append, List.nil_append, Option.toList, f_add, f_sub, f_mul, f_neg, c_eq, c_ne, c_lt, c_ge, c_gt, c_le, d_eq, d_ne, d_lt, d_ge, d_gt, d_le, vinT, nIclamp, nIadd, nImul, nIeq, nIle, nIlt, nIlt0, nIge0, nIgt0, nIle0, nIeq0, ltT, ltF, leT, leF, eqT, eqF, upS, upN, k_n, az_setI, az_setA, true_and, and_true, and_self, true_implies, false_implies, implies_true, not_true_eq_false, not_false_eq_true, Nat.add_zero, Nat.zero_add, Nat.reduceAdd, Nat.reduceSub, Nat.reduceMul, Nat.reduceLT, Nat.reduceLeDiff, Nat.reduceEqDiff, Nat.reducePow, reduceIte, ne_eq, false_and, and_false, exists_eq_left', or_true, true_or, or_false, false_or, nI1one, nI0one, bI0, bI1, bIor, bI_z, bI_1, Bool.not_eq_true, Bool.not_eq_false, Bool.true_eq_false, Bool.false_eq_true, FX11_commit, PX11_commit, LX11_commit_24, e_isUnit hS, e_isHour hS, s_thr, k_s_0, k_f_0_0, k_f_0_1, k_f_0_2, k_f_0_3, k_f_0_4, k_f_0_5, k_f_0_6, k_f_0_7, k_s_47, k_f_47_0, k_s_48, k_r_48, k_s_233, k_f_233_0, k_f_233_1, k_f_233_2, k_f_233_3, k_f_233_4, k_f_233_5, k_f_233_6, k_f_233_7, k_f_233_8, k_f_233_9, k_s_234, k_f_234_0, k_f_234_1, k_f_234_2, k_s_235, k_s_236, k_s_237, k_s_238, k_f_238_0, k_f_238_1, k_f_238_2, k_s_239, k_s_240, k_r_240, k_t_240, k_s_247, k_r_247, k_t_247, k_s_254, k_f_254_0, k_f_254_1, k_f_254_2, k_s_255, k_r_255, k_t_255, k_s_260, k_r_260, k_t_260, k_s_265, k_r_265, k_t_265, k_s_290, k_r_290, k_t_290, k_s_297, k_r_297, k_t_297, k_s_304, k_r_304, k_t_304, k_s_311, k_r_311, k_t_311, k_s_318, k_r_318, k_t_318, k_s_325, k_r_325, k_t_325, k_s_339, k_s_340, k_f_340_0, k_f_340_1, k_f_340_2, k_f_340_3, k_s_341, k_s_342, k_s_343, k_s_344, k_s_345, k_f_345_0, k_f_345_1, k_s_346, k_s_347, k_s_348, k_f_348_0, k_f_348_1, k_f_348_2, k_s_349, k_s_350, k_s_351, k_s_352, k_f_352_0, k_s_353, k_s_1, k_s_2, k_s_9, k_s_16, k_s_21, k_s_22, k_s_23, k_f_1_5, k_f_1_6, k_f_1_7, k_f_1_8, k_f_1_9, k_f_1_10, k_r_2, k_t_2, k_r_9, k_t_9, k_r_16, k_t_16]
  unfold spCom at hQ
  have t1 := hQ I
  refine ⟨fun e => ?_, fun e1 => ⟨fun e => ?_, fun e2 => ⟨fun e3 => ⟨fun e4 => ?_, fun e4 => ?_⟩, fun e3 => ?_⟩⟩⟩
  · rw [if_pos (Or.inl e)] at t1; exact t1 hC0 (fun _ _ _ => rfl)
  · rw [if_pos (Or.inr (Or.inl e))] at t1; exact t1 hC0 (fun _ _ _ => rfl)
  · rw [if_neg (by rw [e1, e2, e3]; simp), if_neg (Int32.not_lt.mpr e4)] at hQ
    clear t1
    obtain ⟨u, hu, rfl⟩ := isB_t (by omega) e1
    obtain ⟨f, hf, rfl⟩ := isB_t (by omega) e2
    obtain ⟨t, ht, rfl⟩ := isB_t (by omega) e3
    rw [nIle ⟨by omega, by omega⟩] at e4
    unfold iN at hQ
    rw [nI_clamp (by omega), nI_clamp (by omega), nI_clamp (by omega)] at hQ
    refine w_beginChange hV hS hH (fun I1 a1 a2 a3 => ?_)
    have hS1 := CS_frame (I' := I1) hV.2.2.2.1 hV.2.2.2.2.1 hS (fun a j _ _ => a3 _ _ (by omega) (by omega))
    have ck : I1 (3 + u) 13 = pT A.1 u 13 := hS1.2.2.2.2.2.1 u 13 hu (by omega) (by omega)
    have go : Q (some (.int (bcJ (pT A.1 u 13 ^^^ cmM (pT A.1 u 13) f t on)))) (K0, az_up I1 (3 + u) 13 (cmM (pT A.1 u 13) f t on), R) := by
      refine hQ _ (CR_chg hC0 (HR_frame a1 (fun q j _ _ => by rw [upN (by omega)])) (by rw [upN (by omega)]; exact a2) (fun q j z => by rw [upN (by omega), a3 _ _ (by omega) (by omega)]) (VS_setP1 hV (cm_hi hV hu e4 ht)) ?_) (fun q j z => by rw [upN (by omega), a3 _ _ (by omega) (by omega)])
      obtain ⟨s1, s2, s3, s4, s5, s6, s7, s8, s9, s10, s11, s12, s13, s14⟩ := hS1
      have hU := hV.2.2.2.1
      have hO := hV.2.2.2.2.1
      refine ⟨?_, ?_, ?_, ?_, ?_, ?_, ?_, ?_, ?_, ?_, ?_, ?_, ?_, ?_⟩
      · repeat rw [upN (by omega)]
        exact s1
      · repeat rw [upN (by omega)]
        exact s2
      · repeat rw [upN (by omega)]
        exact s3
      · repeat rw [upN (by omega)]
        exact s4
      · repeat rw [upN (by omega)]
        exact s5
      · intro u' k hu' hk hk8; have hu2 : u' < pU A.1 := hu'; show _ = if u' = u ∧ k = 13 then cmM (pT A.1 u 13) f t on else pT A.1 u' k; (by_cases e : u' = u ∧ k = 13; (rw [if_pos e, upS (by omega)]); (rw [if_neg e, upN (by omega)]; exact s6 u' k hu' hk hk8))
      · intro u hu; have hu' : u < pU (A.1) := hu; repeat rw [upN (by omega)]
        exact s7 u hu
      · intro o ho; have ho' : o < pO (A.1) := ho; repeat rw [upN (by omega)]
        exact s8 o ho
      · intro o ho; have ho' : o < pO (A.1) := ho; repeat rw [upN (by omega)]
        exact s9 o ho
      · intro o ho; have ho' : o < pO (A.1) := ho; repeat rw [upN (by omega)]
        exact s10 o ho
      · intro c h hc hh; repeat rw [upN (by omega)]
        exact s11 c h hc hh
      · intro h hh; repeat rw [upN (by omega)]
        exact s12 h hh
      · intro c hc hc2; repeat rw [upN (by omega)]
        exact s13 c hc hc2
      · intro c hc hc2; repeat rw [upN (by omega)]
        exact s14 c hc hc2
    unfold cmM hmM at go
    cases on
    · simp (disch := omega) only [s_ic, s_li, s_la, s_si, s_sa, s_inc, s_bin, s_un, s_dup, s_dup2, s_pop, s_if, s_if2, s_gi, s_gr, s_pi, s_pz, s_al, s_aa, s_as, s_az, s_ac, s_mx, s_mn, s_cpy, s_kp, s_ri, s_rz, s_rv, s_cv, s_cs, s_rem, s_div, az_gl, az_sl, az_kp, az_pop, az_fun, az_funX, az_pat, az_in, List.map, List.replicate, List.length, List.cons_append, List.nil_append, Option.toList, f_add, f_sub, f_mul, f_neg, c_eq, c_ne, c_lt, c_ge, c_gt, c_le, d_eq, d_ne, d_lt, d_ge, d_gt, d_le, vinT, nIclamp, nIadd, nImul, nIeq, nIle, nIlt, nIlt0, nIge0, nIgt0, nIle0, nIeq0, ltT, ltF, leT, leF, eqT, eqF, upS, upN, k_n, az_setI, az_setA, true_and, and_true, and_self, true_implies, false_implies, implies_true, not_true_eq_false, not_false_eq_true, Nat.add_zero, Nat.zero_add, Nat.reduceAdd, Nat.reduceSub, Nat.reduceMul, Nat.reduceLT, Nat.reduceLeDiff, Nat.reduceEqDiff, Nat.reducePow, reduceIte, ne_eq, false_and, and_false, exists_eq_left', or_true, true_or, or_false, false_or, nI1one, nI0one, bI0, bI1, bIor, bI_z, bI_1, Bool.not_eq_true, Bool.not_eq_false, Bool.true_eq_false, Bool.false_eq_true, k_f_0_0, ck, f_shl, f_and, f_xor, LX11_commit_94, e_bitCount, k_s_0, k_f_0_0, k_f_0_1, k_f_0_2, k_f_0_3, k_f_0_4, k_f_0_5, k_f_0_6, k_f_0_7, k_s_47, k_f_47_0, k_s_48, k_r_48, k_s_233, k_f_233_0, k_f_233_1, k_f_233_2, k_f_233_3, k_f_233_4, k_f_233_5, k_f_233_6, k_f_233_7, k_f_233_8, k_f_233_9, k_s_234, k_f_234_0, k_f_234_1, k_f_234_2, k_s_235, k_s_236, k_s_237, k_s_238, k_f_238_0, k_f_238_1, k_f_238_2, k_s_239, k_s_240, k_r_240, k_t_240, k_s_247, k_r_247, k_t_247, k_s_254, k_f_254_0, k_f_254_1, k_f_254_2, k_s_255, k_r_255, k_t_255, k_s_260, k_r_260, k_t_260, k_s_265, k_r_265, k_t_265, k_s_290, k_r_290, k_t_290, k_s_297, k_r_297, k_t_297, k_s_304, k_r_304, k_t_304, k_s_311, k_r_311, k_t_311, k_s_318, k_r_318, k_t_318, k_s_325, k_r_325, k_t_325, k_s_339, k_s_340, k_f_340_0, k_f_340_1, k_f_340_2, k_f_340_3, k_s_341, k_s_342, k_s_343, k_s_344, k_s_345, k_f_345_0, k_f_345_1, k_s_346, k_s_347, k_s_348, k_f_348_0, k_f_348_1, k_f_348_2, k_s_349, k_s_350, k_s_351, k_s_352, k_f_352_0, k_s_353, k_s_1, k_s_2, k_s_9, k_s_16, k_s_21, k_s_22, k_s_23, k_f_1_5, k_f_1_6, k_f_1_7, k_f_1_8, k_f_1_9, k_f_1_10, k_r_2, k_t_2, k_r_9, k_t_9, k_r_16, k_t_16]
      rw [if_neg (by decide)] at go
      exact go
    · simp (disch := omega) only [s_ic, s_li, s_la, s_si, s_sa, s_inc, s_bin, s_un, s_dup, s_dup2, s_pop, s_if, s_if2, s_gi, s_gr, s_pi, s_pz, s_al, s_aa, s_as, s_az, s_ac, s_mx, s_mn, s_cpy, s_kp, s_ri, s_rz, s_rv, s_cv, s_cs, s_rem, s_div, az_gl, az_sl, az_kp, az_pop, az_fun, az_funX, az_pat, az_in, List.map, List.replicate, List.length, List.cons_append, List.nil_append, Option.toList, f_add, f_sub, f_mul, f_neg, c_eq, c_ne, c_lt, c_ge, c_gt, c_le, d_eq, d_ne, d_lt, d_ge, d_gt, d_le, vinT, nIclamp, nIadd, nImul, nIeq, nIle, nIlt, nIlt0, nIge0, nIgt0, nIle0, nIeq0, ltT, ltF, leT, leF, eqT, eqF, upS, upN, k_n, az_setI, az_setA, true_and, and_true, and_self, true_implies, false_implies, implies_true, not_true_eq_false, not_false_eq_true, Nat.add_zero, Nat.zero_add, Nat.reduceAdd, Nat.reduceSub, Nat.reduceMul, Nat.reduceLT, Nat.reduceLeDiff, Nat.reduceEqDiff, Nat.reducePow, reduceIte, ne_eq, false_and, and_false, exists_eq_left', or_true, true_or, or_false, false_or, nI1one, nI0one, bI0, bI1, bIor, bI_z, bI_1, Bool.not_eq_true, Bool.not_eq_false, Bool.true_eq_false, Bool.false_eq_true, k_f_0_0, ck, f_shl, f_or, f_xor, LX11_commit_94, e_bitCount, k_s_0, k_f_0_0, k_f_0_1, k_f_0_2, k_f_0_3, k_f_0_4, k_f_0_5, k_f_0_6, k_f_0_7, k_s_47, k_f_47_0, k_s_48, k_r_48, k_s_233, k_f_233_0, k_f_233_1, k_f_233_2, k_f_233_3, k_f_233_4, k_f_233_5, k_f_233_6, k_f_233_7, k_f_233_8, k_f_233_9, k_s_234, k_f_234_0, k_f_234_1, k_f_234_2, k_s_235, k_s_236, k_s_237, k_s_238, k_f_238_0, k_f_238_1, k_f_238_2, k_s_239, k_s_240, k_r_240, k_t_240, k_s_247, k_r_247, k_t_247, k_s_254, k_f_254_0, k_f_254_1, k_f_254_2, k_s_255, k_r_255, k_t_255, k_s_260, k_r_260, k_t_260, k_s_265, k_r_265, k_t_265, k_s_290, k_r_290, k_t_290, k_s_297, k_r_297, k_t_297, k_s_304, k_r_304, k_t_304, k_s_311, k_r_311, k_t_311, k_s_318, k_r_318, k_t_318, k_s_325, k_r_325, k_t_325, k_s_339, k_s_340, k_f_340_0, k_f_340_1, k_f_340_2, k_f_340_3, k_s_341, k_s_342, k_s_343, k_s_344, k_s_345, k_f_345_0, k_f_345_1, k_s_346, k_s_347, k_s_348, k_f_348_0, k_f_348_1, k_f_348_2, k_s_349, k_s_350, k_s_351, k_s_352, k_f_352_0, k_s_353, k_s_1, k_s_2, k_s_9, k_s_16, k_s_21, k_s_22, k_s_23, k_f_1_5, k_f_1_6, k_f_1_7, k_f_1_8, k_f_1_9, k_f_1_10, k_r_2, k_t_2, k_r_9, k_t_9, k_r_16, k_t_16]
      rw [if_pos rfl] at go
      exact go
  · rw [if_neg (by rw [e1, e2, e3]; simp), if_pos (Int32.not_le.mp e4)] at t1; exact t1 hC0 (fun _ _ _ => rfl)
  · rw [if_pos (Or.inr (Or.inr e3))] at t1; exact t1 hC0 (fun _ _ _ => rfl)
theorem w_removeOutage {I : Nat → Nat → Int32} {R : RT} {A : AT} {x : Int32} {Q : Option Value → az_M → Prop} {Xs : String → az_M → Prop} (hC : CR A I)
    (hQ : ∀ I', CR (spRemO A x).2.2 I' → (∀ q j, 353 < q → I' q j = I q j) → fnC [eIX] Q Xs (spRemO A x) (K0, I', R)) : FX11_removeOutage [.ref 0, .int x] (K0, I, R) Q Xs := by
  have hC0 := hC
  obtain ⟨hV, hS, hH, hsv, hT, st, hst, hout⟩ := hC
  have hOO := hV.2.2.2.2.1
  simp (disch := omega) only [s_ic, s_li, s_la, s_si, s_sa, s_inc, s_bin, s_un, s_dup, s_dup2, s_pop, s_if, s_if2, s_gi, s_gr, s_pi, s_pz, s_al, s_aa, s_as, s_az, s_ac, s_mx, s_mn, s_cpy, s_kp, s_ri, s_rz, s_rv, s_cv, s_cs, s_rem, s_div, az_gl, az_sl, az_kp, az_pop, az_fun, az_funX, az_pat, az_in, List.map, List.replicate, List.length, List.cons_append, List.nil_append, Option.toList, f_add, f_sub, f_mul, f_neg, c_eq, c_ne, c_lt, c_ge, c_gt, c_le, d_eq, d_ne, d_lt, d_ge, d_gt, d_le, vinT, nIclamp, nIadd, nImul, nIeq, nIle, nIlt, nIlt0, nIge0, nIgt0, nIle0, nIeq0, ltT, ltF, leT, leF, eqT, eqF, upS, upN, k_n, az_setI, az_setA, true_and, and_true, and_self, true_implies, false_implies, implies_true, not_true_eq_false, not_false_eq_true, Nat.add_zero, Nat.zero_add, Nat.reduceAdd, Nat.reduceSub, Nat.reduceMul, Nat.reduceLT, Nat.reduceLeDiff, Nat.reduceEqDiff, Nat.reducePow, reduceIte, ne_eq, false_and, and_false, exists_eq_left', or_true, true_or, or_false, false_or, nI1one, nI0one, bI0, bI1, bIor, bI_z, bI_1, Bool.not_eq_true, Bool.not_eq_false, Bool.true_eq_false, Bool.false_eq_true, FX11_removeOutage, PX11_removeOutage, e_isOutage hS, s_thr, k_s_0, k_f_0_0, k_f_0_1, k_f_0_2, k_f_0_3, k_f_0_4, k_f_0_5, k_f_0_6, k_f_0_7, k_s_47, k_f_47_0, k_s_48, k_r_48, k_s_233, k_f_233_0, k_f_233_1, k_f_233_2, k_f_233_3, k_f_233_4, k_f_233_5, k_f_233_6, k_f_233_7, k_f_233_8, k_f_233_9, k_s_234, k_f_234_0, k_f_234_1, k_f_234_2, k_s_235, k_s_236, k_s_237, k_s_238, k_f_238_0, k_f_238_1, k_f_238_2, k_s_239, k_s_240, k_r_240, k_t_240, k_s_247, k_r_247, k_t_247, k_s_254, k_f_254_0, k_f_254_1, k_f_254_2, k_s_255, k_r_255, k_t_255, k_s_260, k_r_260, k_t_260, k_s_265, k_r_265, k_t_265, k_s_290, k_r_290, k_t_290, k_s_297, k_r_297, k_t_297, k_s_304, k_r_304, k_t_304, k_s_311, k_r_311, k_t_311, k_s_318, k_r_318, k_t_318, k_s_325, k_r_325, k_t_325, k_s_339, k_s_340, k_f_340_0, k_f_340_1, k_f_340_2, k_f_340_3, k_s_341, k_s_342, k_s_343, k_s_344, k_s_345, k_f_345_0, k_f_345_1, k_s_346, k_s_347, k_s_348, k_f_348_0, k_f_348_1, k_f_348_2, k_s_349, k_s_350, k_s_351, k_s_352, k_f_352_0, k_s_353, k_s_1, k_s_2, k_s_9, k_s_16, k_s_21, k_s_22, k_s_23, k_f_1_5, k_f_1_6, k_f_1_7, k_f_1_8, k_f_1_9, k_f_1_10, k_r_2, k_t_2, k_r_9, k_t_9, k_r_16, k_t_16]
  unfold spRemO at hQ
  have t1 := hQ I
  refine ⟨fun e1 => ?_, fun e1 => ?_⟩
  · rw [if_neg (by rw [e1]; simp)] at hQ
    clear t1
    obtain ⟨o, ho, rfl⟩ := isB_t (by omega) e1
    unfold iN at hQ
    rw [nI_clamp (by omega)] at hQ
    refine w_beginChange hV hS hH (fun I1 a1 a2 a3 => ?_)
    have hS1 := CS_frame (I' := I1) hV.2.2.2.1 hV.2.2.2.2.1 hS (fun a j _ _ => a3 _ _ (by omega) (by omega))
    simp (disch := omega) only [s_ic, s_li, s_la, s_si, s_sa, s_inc, s_bin, s_un, s_dup, s_dup2, s_pop, s_if, s_if2, s_gi, s_gr, s_pi, s_pz, s_al, s_aa, s_as, s_az, s_ac, s_mx, s_mn, s_cpy, s_kp, s_ri, s_rz, s_rv, s_cv, s_cs, s_rem, s_div, az_gl, az_sl, az_kp, az_pop, az_fun, az_funX, az_pat, az_in, List.map, List.replicate, List.length, List.cons_append, List.nil_append, Option.toList, f_add, f_sub, f_mul, f_neg, c_eq, c_ne, c_lt, c_ge, c_gt, c_le, d_eq, d_ne, d_lt, d_ge, d_gt, d_le, vinT, nIclamp, nIadd, nImul, nIeq, nIle, nIlt, nIlt0, nIge0, nIgt0, nIle0, nIeq0, ltT, ltF, leT, leF, eqT, eqF, upS, upN, k_n, az_setI, az_setA, true_and, and_true, and_self, true_implies, false_implies, implies_true, not_true_eq_false, not_false_eq_true, Nat.add_zero, Nat.zero_add, Nat.reduceAdd, Nat.reduceSub, Nat.reduceMul, Nat.reduceLT, Nat.reduceLeDiff, Nat.reduceEqDiff, Nat.reducePow, reduceIte, ne_eq, false_and, and_false, exists_eq_left', or_true, true_or, or_false, false_or, nI1one, nI0one, bI0, bI1, bIor, bI_z, bI_1, Bool.not_eq_true, Bool.not_eq_false, Bool.true_eq_false, Bool.false_eq_true, LX11_removeOutage_24, k_s_0, k_f_0_0, k_f_0_1, k_f_0_2, k_f_0_3, k_f_0_4, k_f_0_5, k_f_0_6, k_f_0_7, k_s_47, k_f_47_0, k_s_48, k_r_48, k_s_233, k_f_233_0, k_f_233_1, k_f_233_2, k_f_233_3, k_f_233_4, k_f_233_5, k_f_233_6, k_f_233_7, k_f_233_8, k_f_233_9, k_s_234, k_f_234_0, k_f_234_1, k_f_234_2, k_s_235, k_s_236, k_s_237, k_s_238, k_f_238_0, k_f_238_1, k_f_238_2, k_s_239, k_s_240, k_r_240, k_t_240, k_s_247, k_r_247, k_t_247, k_s_254, k_f_254_0, k_f_254_1, k_f_254_2, k_s_255, k_r_255, k_t_255, k_s_260, k_r_260, k_t_260, k_s_265, k_r_265, k_t_265, k_s_290, k_r_290, k_t_290, k_s_297, k_r_297, k_t_297, k_s_304, k_r_304, k_t_304, k_s_311, k_r_311, k_t_311, k_s_318, k_r_318, k_t_318, k_s_325, k_r_325, k_t_325, k_s_339, k_s_340, k_f_340_0, k_f_340_1, k_f_340_2, k_f_340_3, k_s_341, k_s_342, k_s_343, k_s_344, k_s_345, k_f_345_0, k_f_345_1, k_s_346, k_s_347, k_s_348, k_f_348_0, k_f_348_1, k_f_348_2, k_s_349, k_s_350, k_s_351, k_s_352, k_f_352_0, k_s_353, k_s_1, k_s_2, k_s_9, k_s_16, k_s_21, k_s_22, k_s_23, k_f_1_5, k_f_1_6, k_f_1_7, k_f_1_8, k_f_1_9, k_f_1_10, k_r_2, k_t_2, k_r_9, k_t_9, k_r_16, k_t_16]
    refine lp_mem (q := (0, 0)) (pO A.1 - (o + 1)) (fun i => [some (.ref 0), none, some (.int (nI (o + 1 + i)))]) (fun i I2 => (∀ r j, r < 6 → j < 3 → I2 (10 + r) j = if o ≤ r ∧ r < o + i then I1 (10 + (r + 1)) j else I1 (10 + r) j) ∧ ∀ q j, (q < 10 ∨ 15 < q) → I2 q j = I1 q j) ⟨fun r j z1 z2 => by rw [if_neg (by omega)], fun _ _ _ => rfl⟩ ?_ ?_
    · intro i hi I2 ⟨g1, g2⟩ Z hZ
      have c5 : I2 1 4 = nI (pO A.1) := by rw [g2 _ _ (by omega)]; exact hS1.2.2.2.2.1
      have hi2 : ¬ pO A.1 ≤ o + 1 + i := by omega
      simp (disch := omega) only [s_ic, s_li, s_la, s_si, s_sa, s_inc, s_bin, s_un, s_dup, s_dup2, s_pop, s_if, s_if2, s_gi, s_gr, s_pi, s_pz, s_al, s_aa, s_as, s_az, s_ac, s_mx, s_mn, s_cpy, s_kp, s_ri, s_rz, s_rv, s_cv, s_cs, s_rem, s_div, az_gl, az_sl, az_kp, az_pop, az_fun, az_funX, az_pat, az_in, List.map, List.replicate, List.length, List.cons_append, List.nil_append, Option.toList, f_add, f_sub, f_mul, f_neg, c_eq, c_ne, c_lt, c_ge, c_gt, c_le, d_eq, d_ne, d_lt, d_ge, d_gt, d_le, vinT, nIclamp, nIadd, nImul, nIeq, nIle, nIlt, nIlt0, nIge0, nIgt0, nIle0, nIeq0, ltT, ltF, leT, leF, eqT, eqF, upS, upN, k_n, az_setI, az_setA, true_and, and_true, and_self, true_implies, false_implies, implies_true, not_true_eq_false, not_false_eq_true, Nat.add_zero, Nat.zero_add, Nat.reduceAdd, Nat.reduceSub, Nat.reduceMul, Nat.reduceLT, Nat.reduceLeDiff, Nat.reduceEqDiff, Nat.reducePow, reduceIte, ne_eq, false_and, and_false, exists_eq_left', or_true, true_or, or_false, false_or, nI1one, nI0one, bI0, bI1, bIor, bI_z, bI_1, Bool.not_eq_true, Bool.not_eq_false, Bool.true_eq_false, Bool.false_eq_true, BX11_removeOutage_24, k_f_0_0, c5, hi2, nIsub, k_s_0, k_f_0_0, k_f_0_1, k_f_0_2, k_f_0_3, k_f_0_4, k_f_0_5, k_f_0_6, k_f_0_7, k_s_47, k_f_47_0, k_s_48, k_r_48, k_s_233, k_f_233_0, k_f_233_1, k_f_233_2, k_f_233_3, k_f_233_4, k_f_233_5, k_f_233_6, k_f_233_7, k_f_233_8, k_f_233_9, k_s_234, k_f_234_0, k_f_234_1, k_f_234_2, k_s_235, k_s_236, k_s_237, k_s_238, k_f_238_0, k_f_238_1, k_f_238_2, k_s_239, k_s_240, k_r_240, k_t_240, k_s_247, k_r_247, k_t_247, k_s_254, k_f_254_0, k_f_254_1, k_f_254_2, k_s_255, k_r_255, k_t_255, k_s_260, k_r_260, k_t_260, k_s_265, k_r_265, k_t_265, k_s_290, k_r_290, k_t_290, k_s_297, k_r_297, k_t_297, k_s_304, k_r_304, k_t_304, k_s_311, k_r_311, k_t_311, k_s_318, k_r_318, k_t_318, k_s_325, k_r_325, k_t_325, k_s_339, k_s_340, k_f_340_0, k_f_340_1, k_f_340_2, k_f_340_3, k_s_341, k_s_342, k_s_343, k_s_344, k_s_345, k_f_345_0, k_f_345_1, k_s_346, k_s_347, k_s_348, k_f_348_0, k_f_348_1, k_f_348_2, k_s_349, k_s_350, k_s_351, k_s_352, k_f_352_0, k_s_353, k_s_1, k_s_2, k_s_9, k_s_16, k_s_21, k_s_22, k_s_23, k_f_1_5, k_f_1_6, k_f_1_7, k_f_1_8, k_f_1_9, k_f_1_10, k_r_2, k_t_2, k_r_9, k_t_9, k_r_16, k_t_16]
      refine hZ _ ⟨fun r j z1 z2 => ?_, fun q j z => ?_⟩
      · by_cases e : r = o + i
        · subst e
          rw [if_pos (by omega), show 10 + (o + i) = 10 + (o + 1 + i - 1) by omega, vu_c z2, g1 _ _ (by omega) z2, if_neg (by omega)]
          congr 1; omega
        · rw [vu_n (by omega), g1 r j z1 z2]
          by_cases e2 : o ≤ r ∧ r < o + i
          · rw [if_pos e2, if_pos (by omega)]
          · rw [if_neg e2, if_neg (by omega)]
      · rw [vu_n (by omega)]; exact g2 q j z
    · intro I2 ⟨g1, g2⟩ Z
      have c5 : I2 1 4 = nI (pO A.1) := by rw [g2 _ _ (by omega)]; exact hS1.2.2.2.2.1
      have hi2 : pO A.1 ≤ o + 1 + (pO A.1 - (o + 1)) := by omega
      simp (disch := omega) only [s_ic, s_li, s_la, s_si, s_sa, s_inc, s_bin, s_un, s_dup, s_dup2, s_pop, s_if, s_if2, s_gi, s_gr, s_pi, s_pz, s_al, s_aa, s_as, s_az, s_ac, s_mx, s_mn, s_cpy, s_kp, s_ri, s_rz, s_rv, s_cv, s_cs, s_rem, s_div, az_gl, az_sl, az_kp, az_pop, az_fun, az_funX, az_pat, az_in, List.map, List.replicate, List.length, List.cons_append, List.nil_append, Option.toList, f_add, f_sub, f_mul, f_neg, c_eq, c_ne, c_lt, c_ge, c_gt, c_le, d_eq, d_ne, d_lt, d_ge, d_gt, d_le, vinT, nIclamp, nIadd, nImul, nIeq, nIle, nIlt, nIlt0, nIge0, nIgt0, nIle0, nIeq0, ltT, ltF, leT, leF, eqT, eqF, upS, upN, k_n, az_setI, az_setA, true_and, and_true, and_self, true_implies, false_implies, implies_true, not_true_eq_false, not_false_eq_true, Nat.add_zero, Nat.zero_add, Nat.reduceAdd, Nat.reduceSub, Nat.reduceMul, Nat.reduceLT, Nat.reduceLeDiff, Nat.reduceEqDiff, Nat.reducePow, reduceIte, ne_eq, false_and, and_false, exists_eq_left', or_true, true_or, or_false, false_or, nI1one, nI0one, bI0, bI1, bIor, bI_z, bI_1, Bool.not_eq_true, Bool.not_eq_false, Bool.true_eq_false, Bool.false_eq_true, BX11_removeOutage_24, k_f_0_0, c5, hi2, nIsub, k_s_0, k_f_0_0, k_f_0_1, k_f_0_2, k_f_0_3, k_f_0_4, k_f_0_5, k_f_0_6, k_f_0_7, k_s_47, k_f_47_0, k_s_48, k_r_48, k_s_233, k_f_233_0, k_f_233_1, k_f_233_2, k_f_233_3, k_f_233_4, k_f_233_5, k_f_233_6, k_f_233_7, k_f_233_8, k_f_233_9, k_s_234, k_f_234_0, k_f_234_1, k_f_234_2, k_s_235, k_s_236, k_s_237, k_s_238, k_f_238_0, k_f_238_1, k_f_238_2, k_s_239, k_s_240, k_r_240, k_t_240, k_s_247, k_r_247, k_t_247, k_s_254, k_f_254_0, k_f_254_1, k_f_254_2, k_s_255, k_r_255, k_t_255, k_s_260, k_r_260, k_t_260, k_s_265, k_r_265, k_t_265, k_s_290, k_r_290, k_t_290, k_s_297, k_r_297, k_t_297, k_s_304, k_r_304, k_t_304, k_s_311, k_r_311, k_t_311, k_s_318, k_r_318, k_t_318, k_s_325, k_r_325, k_t_325, k_s_339, k_s_340, k_f_340_0, k_f_340_1, k_f_340_2, k_f_340_3, k_s_341, k_s_342, k_s_343, k_s_344, k_s_345, k_f_345_0, k_f_345_1, k_s_346, k_s_347, k_s_348, k_f_348_0, k_f_348_1, k_f_348_2, k_s_349, k_s_350, k_s_351, k_s_352, k_f_352_0, k_s_353, k_s_1, k_s_2, k_s_9, k_s_16, k_s_21, k_s_22, k_s_23, k_f_1_5, k_f_1_6, k_f_1_7, k_f_1_8, k_f_1_9, k_f_1_10, k_r_2, k_t_2, k_r_9, k_t_9, k_r_16, k_t_16]
      refine hQ _ (CR_chg hC0 (HR_frame a1 (fun q j _ _ => by rw [upN (by omega), g2 _ _ (by omega)])) (by rw [upN (by omega), g2 _ _ (by omega)]; exact a2) (fun q j z => by rw [upN (by omega), g2 _ _ (by omega), a3 _ _ (by omega) (by omega)]) ?_ ?_) (fun q j z => by rw [upN (by omega), g2 _ _ (by omega), a3 _ _ (by omega) (by omega)])
      · refine ⟨hV.1, hV.2.1, hV.2.2.1, hV.2.2.2.1, by show pO A.1 - 1 ≤ 6; omega, hV.2.2.2.2.2.1, fun r hr => ?_, hV.2.2.2.2.2.2.2⟩
        have hr' : r < pO A.1 - 1 := hr
        show (if o ≤ r then pX A.1 (r + 1) else pX A.1 r).1 < pU A.1 ∧ (if o ≤ r then pX A.1 (r + 1) else pX A.1 r).2.1 < pH A.1 ∧ 1 ≤ (if o ≤ r then pX A.1 (r + 1) else pX A.1 r).2.2 ∧ (if o ≤ r then pX A.1 (r + 1) else pX A.1 r).2.2 ≤ 24
        by_cases e : o ≤ r
        · rw [if_pos e]; exact hV.2.2.2.2.2.2.1 (r + 1) (by omega)
        · rw [if_neg e]; exact hV.2.2.2.2.2.2.1 r (by omega)
      · have rw1 : ∀ r j, r < pO A.1 - 1 → j < 3 → I2 (10 + r) j = if o ≤ r then I1 (10 + (r + 1)) j else I1 (10 + r) j := by
          intro r j z1 z2
          rw [g1 r j (by omega) z2]
          by_cases e : o ≤ r
          · rw [if_pos (by omega), if_pos e]
          · rw [if_neg (by omega), if_neg e]
        obtain ⟨s1, s2, s3, s4, s5, s6, s7, s8, s9, s10, s11, s12, s13, s14⟩ := hS1
        have hUU := hV.2.2.2.1
        refine ⟨?_, ?_, ?_, ?_, ?_, ?_, ?_, ?_, ?_, ?_, ?_, ?_, ?_, ?_⟩
        · rw [upN (by omega), g2 _ _ (by omega)]; exact s1
        · rw [upN (by omega), g2 _ _ (by omega)]; exact s2
        · rw [upN (by omega), g2 _ _ (by omega)]; exact s3
        · rw [upN (by omega), g2 _ _ (by omega)]; exact s4
        · rw [upS ⟨rfl, rfl⟩]; rfl
        · intro u k hu hk hk8; have hu' : u < pU A.1 := hu; rw [upN (by omega), g2 _ _ (by omega)]; exact s6 u k hu hk hk8
        · intro u hu; have hu' : u < pU A.1 := hu; rw [upN (by omega), g2 _ _ (by omega)]; exact s7 u hu'
        · intro r hr
          have hr' : r < pO A.1 - 1 := hr
          show _ = nI (if o ≤ r then pX A.1 (r + 1) else pX A.1 r).1
          rw [show (1 + 9 + r : Nat) = 10 + r by omega, upN (by omega), rw1 r _ hr' (by omega)]
          by_cases e : o ≤ r
          · rw [if_pos e, if_pos e]; exact s8 (r + 1) (by omega)
          · rw [if_neg e, if_neg e]; exact s8 r (by omega)
        · intro r hr
          have hr' : r < pO A.1 - 1 := hr
          show _ = nI (if o ≤ r then pX A.1 (r + 1) else pX A.1 r).2.1
          rw [show (1 + 9 + r : Nat) = 10 + r by omega, upN (by omega), rw1 r _ hr' (by omega)]
          by_cases e : o ≤ r
          · rw [if_pos e, if_pos e]; exact s9 (r + 1) (by omega)
          · rw [if_neg e, if_neg e]; exact s9 r (by omega)
        · intro r hr
          have hr' : r < pO A.1 - 1 := hr
          show _ = nI (if o ≤ r then pX A.1 (r + 1) else pX A.1 r).2.2
          rw [show (1 + 9 + r : Nat) = 10 + r by omega, upN (by omega), rw1 r _ hr' (by omega)]
          by_cases e : o ≤ r
          · rw [if_pos e, if_pos e]; exact s10 (r + 1) (by omega)
          · rw [if_neg e, if_neg e]; exact s10 r (by omega)
        · intro c h hc hh; rw [upN (by omega), g2 _ _ (by omega)]; exact s11 c h hc hh
        · intro h hh; rw [upN (by omega), g2 _ _ (by omega)]; exact s12 h hh
        · intro c q1 q2; rw [upN (by omega), g2 _ _ (by omega)]; exact s13 c q1 q2
        · intro c q1 q2; rw [upN (by omega), g2 _ _ (by omega)]; exact s14 c q1 q2
  · rw [if_pos e1] at t1; exact t1 hC0 (fun _ _ _ => rfl)
