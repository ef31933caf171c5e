set_option maxRecDepth 100000
set_option maxHeartbeats 4000000
/-- the cheapest plan below a number, the first of several -/
noncomputable def srF (S : PS) : Nat → Option Nat
  | 0 => none
  | n + 1 => @ite _ (feN S n ∧ ∀ m, srF S n = some m → toN S n < toN S m) (Classical.propDecidable _) (some n) (srF S n)
theorem srF_t {S : PS} {n : Nat} (h : feN S n ∧ ∀ m, srF S n = some m → toN S n < toN S m) : srF S (n + 1) = some n := by
  show @ite _ _ (Classical.propDecidable _) _ _ = _
  rw [if_pos h]
theorem srF_f {S : PS} {n : Nat} (h : ¬ (feN S n ∧ ∀ m, srF S n = some m → toN S n < toN S m)) : srF S (n + 1) = srF S n := by
  show @ite _ _ (Classical.propDecidable _) _ _ = _
  rw [if_neg h]
theorem srF_spec {S : PS} : ∀ N, (srF S N = none → ∀ n, n < N → ¬ feN S n) ∧ ∀ m, srF S N = some m → m < N ∧ feN S m ∧ ∀ n, n < N → feN S n → toN S m < toN S n ∨ (toN S m = toN S n ∧ m ≤ n)
  | 0 => ⟨fun _ n hn => absurd hn (Nat.not_lt_zero _), fun m hm => (by cases hm)⟩
  | N + 1 => by
    obtain ⟨i1, i2⟩ := srF_spec (S := S) N
    by_cases c : feN S N ∧ ∀ m, srF S N = some m → toN S N < toN S m
    · rw [srF_t c]
      refine ⟨fun h => (by cases h), fun m hm => ?_⟩
      cases hm
      refine ⟨by omega, c.1, fun n hn hf => ?_⟩
      by_cases en : n = N
      · rw [en]; exact Or.inr ⟨rfl, Nat.le_refl _⟩
      · cases hs : srF S N with
        | none => exact absurd hf (i1 hs n (by omega))
        | some m =>
          have h1 := c.2 m hs
          have h2 := (i2 m hs).2.2 n (by omega) hf
          left
          rw [lt_T] at h1 ⊢
          rcases h2 with h2 | h2
          · rw [lt_T] at h2; omega
          · rw [h2.1] at h1; exact h1
    · rw [srF_f c]
      refine ⟨fun h n hn hf => ?_, fun m hm => ?_⟩
      · by_cases en : n = N
        · rw [en] at hf
          exact c ⟨hf, fun m hm => by rw [h] at hm; cases hm⟩
        · exact i1 h n (by omega) hf
      · obtain ⟨h1, h2, h3⟩ := i2 m hm
        refine ⟨by omega, h2, fun n hn hf => ?_⟩
        by_cases en : n = N
        · have hnl : ¬ toN S N < toN S m := fun z => c ⟨by rw [← en]; exact hf, fun m' hm' => by rw [hm] at hm'; cases hm'; exact z⟩
          rw [en]
          by_cases eq : toN S m = toN S N
          · exact Or.inr ⟨eq, by omega⟩
          · left
            have : (toN S m).toInt ≠ (toN S N).toInt := fun z => eq (Int32.toInt_inj.mp z)
            rw [lt_T] at hnl ⊢
            omega
        · exact h3 n (by omega) hf
noncomputable def spSrch (A : AT) : ST := if 10 < pU A.1 * pH A.1 then thS 1 A else match srF A.1 (2 ^ (pU A.1 * pH A.1)) with
  | none => thS 2 A
  | some n => okS (toN A.1 n) (chS A (SN A.1 n))
theorem ltK {x : Int32} {K : Nat} (hK : K ≤ 31) (h : ∀ i, K ≤ i → bt x i = false) : ∃ n, n < 2 ^ K ∧ x = nI n := by
  refine ⟨x.toBitVec.toNat, ?_, ?_⟩
  · apply Nat.lt_pow_two_of_testBit
    intro i hi
    rw [BitVec.testBit_toNat]
    exact h i hi
  · apply b_ext
    intro i hi
    rw [bt_nI hi, BitVec.testBit_toNat]; rfl
theorem dm_1 {H u h : Nat} (hh : h < H) : (u * H + h) % H = h ∧ (u * H + h) / H = u := by
  constructor
  · rw [Nat.mul_comm, Nat.mul_add_mod, Nat.mod_eq_of_lt hh]
  · rw [Nat.mul_comm, Nat.mul_add_div (by omega), Nat.div_eq_of_lt hh, Nat.add_zero]
theorem dm_2 {H U u h : Nat} (hh : h < H) (hu : u < U) : u * H + h < U * H := by
  have : (u + 1) * H ≤ U * H := Nat.mul_le_mul_right _ hu
  rw [Nat.succ_mul] at this
  omega
theorem sqN_bt {S : PS} (hV : VS S) {n h u : Nat} (hu : u < 32) : bt (sqN S n h) u = (decide (u < pU S) && n.testBit (u * pH S + h)) := by
  have hU := hV.2.2.2.1
  show bt (mkM _ (pU S)) u = _
  rw [b_mkM (by omega) hu]
theorem sq_n {S : PS} (hV : VS S) (hb : pU S * pH S ≤ 10) {d : Nat → Nat} (hd : okSq S d) : ∃ n, n < 2 ^ (pU S * pH S) ∧ nmF S (sq d) = nI n ∧ ∀ k, k < pH S → sqN S n k = sq d k := by
  have hU := hV.2.2.2.1
  have hH := hV.1
  have hbit : ∀ i, i < 32 → bt (nmF S (sq d)) i = (decide (i < pU S * pH S) && bt (sq d (i % pH S)) (i / pH S)) := fun i hi => b_mkM (by omega) hi
  obtain ⟨n, hn, he⟩ := ltK (x := nmF S (sq d)) (K := pU S * pH S) (by omega) (fun i hi => by
    rcases Nat.lt_or_ge i 32 with q | q
    · rw [hbit i q, decide_eq_false (by omega)]; rfl
    · exact b_big q)
  refine ⟨n, hn, he, fun k hk => ?_⟩
  apply b_ext
  intro u hu
  rw [sqN_bt hV hu]
  have hdk := hd k hk
  by_cases e : u < pU S
  · have hi := dm_2 hk e
    have h1 := hbit (u * pH S + k) (by omega)
    rw [(dm_1 hk).1, (dm_1 hk).2, decide_eq_true hi, Bool.true_and, he, bt_nI (by omega)] at h1
    rw [decide_eq_true e, Bool.true_and, h1]
  · rw [decide_eq_false e, Bool.false_and, bt_nI hu, Nat.testBit_lt_two_pow (Nat.lt_of_lt_of_le hdk (Nat.pow_le_pow_right (by decide) (by omega)))]
theorem n_sq {S : PS} (hV : VS S) (hb : pU S * pH S ≤ 10) {n : Nat} (hn : n < 2 ^ (pU S * pH S)) : ∃ d, okSq S d ∧ (∀ k, sq d k = sqN S n k) ∧ nmF S (sq d) = nI n := by
  have hU := hV.2.2.2.1
  have hH := hV.1
  have hk : ∀ k, ∃ m, m < 2 ^ pU S ∧ sqN S n k = nI m := fun k => ltK (by omega) (fun i hi => by
    rcases Nat.lt_or_ge i 32 with q | q
    · rw [sqN_bt hV q, decide_eq_false (by omega)]; rfl
    · exact b_big q)
  have hs : ∀ k, nI (Classical.choose (hk k)) = sqN S n k := fun k => (Classical.choose_spec (hk k)).2.symm
  refine ⟨fun k => Classical.choose (hk k), fun k _ => (Classical.choose_spec (hk k)).1, hs, ?_⟩
  apply b_ext
  intro i hi
  rw [show nmF S (sq fun k => Classical.choose (hk k)) = mkM (fun i => bt (nI (Classical.choose (hk (i % pH S)))) (i / pH S)) (pU S * pH S) from rfl, b_mkM (by omega) hi, bt_nI hi, hs]
  by_cases e : i < pU S * pH S
  · have h1 : i / pH S < pU S := (Nat.div_lt_iff_lt_mul (by omega)).mpr e
    rw [decide_eq_true e, Bool.true_and, sqN_bt hV (by omega), decide_eq_true h1, Bool.true_and, Nat.mul_comm, Nat.div_add_mod]
  · rw [decide_eq_false e, Bool.false_and, Nat.testBit_lt_two_pow (Nat.lt_of_lt_of_le hn (Nat.pow_le_pow_right (by decide) (by omega)))]
theorem fe_sq {S : PS} {d : Nat → Nat} {n : Nat} (e : ∀ k, k < pH S → sqN S n k = sq d k) : feas S d ↔ feN S n :=
  ⟨fun h k hk => fsP_congr (fun j hj => (e j (by omega)).symm) (h k hk), fun h k hk => fsP_congr (fun j hj => e j (by omega)) (h k hk)⟩
theorem to_sq {S : PS} (hV : VS S) {d : Nat → Nat} {n : Nat} (e : ∀ k, k < pH S → sqN S n k = sq d k) : totF S (oFd S) (sq d) (pH S - 1) = toN S n := by
  have hH := hV.1
  exact totF_congr (fun k hk => (e k (by omega)).symm)
theorem CS_P {b : Nat} {S : PS} {p p' : Nat → Int32} {I : Nat → Nat → Int32} (e : ∀ u, u < pU S → p u = p' u) (h : CS b (setP S p) I) : CS b (setP S p') I := by
  obtain ⟨s1, s2, s3, s4, s5, s6, s7, s8, s9, s10, s11, s12, s13, s14⟩ := h
  refine ⟨s1, s2, s3, s4, s5, fun u k hu hk hk8 => ?_, s7, s8, s9, s10, s11, s12, s13, s14⟩
  have := s6 u k hu hk hk8
  rw [this]
  show (if k = 13 then p u else pT S u k) = if k = 13 then p' u else pT S u k
  rw [e u hu]
theorem w_search {I : Nat → Nat → Int32} {R : RT} {A : AT} {Q : Option Value → az_M → Prop} {Xs : String → az_M → Prop} (hC : CR A I)
    (hQ : ∀ I', CR (spSrch A).2.2 I' → (∀ q j, 353 < q → I' q j = I q j) → fnC [eUO, eIS] Q Xs (spSrch A) (K0, I', R)) : FX11_search [.ref 0] (K0, I, R) Q Xs := by
  have hC0 := hC
  obtain ⟨hV, hS, hH, hsv, hT, st, hst, hout⟩ := hC
  have hU := hV.2.2.2.1
  have hO := hV.2.2.2.2.1
  have hHH := hV.1
  have hb6 : pU A.1 * pH A.1 ≤ 6 * 24 := Nat.mul_le_mul hU hHH.2
  unfold spSrch at hQ
  simp (disch := omega) only [s_ic, s_li, s_la, s_si, s_sa, s_inc, s_bin, s_un, s_dup, s_dup2, s_pop, s_if, s_if2, s_gi, s_gr, s_pi, s_pz, s_al, s_aa, s_as, s_az, s_ac, s_mx, s_mn, s_cpy, s_kp, s_ri, s_rz, s_rv, s_cv, s_cs, s_rem, s_div, az_gl, az_sl, az_kp, az_pop, az_fun, az_funX, az_pat, az_in, List.map, List.replicate, List.length, List.cons_append, List.nil_append, Option.toList, f_add, f_sub, f_mul, f_neg, c_eq, c_ne, c_lt, c_ge, c_gt, c_le, d_eq, d_ne, d_lt, d_ge, d_gt, d_le, vinT, nIclamp, nIadd, nImul, nIeq, nIle, nIlt, nIlt0, nIge0, nIgt0, nIle0, nIeq0, ltT, ltF, leT, leF, eqT, eqF, upS, upN, k_n, az_setI, az_setA, true_and, and_true, and_self, true_implies, false_implies, implies_true, not_true_eq_false, not_false_eq_true, Nat.add_zero, Nat.zero_add, Nat.reduceAdd, Nat.reduceSub, Nat.reduceMul, Nat.reduceLT, Nat.reduceLeDiff, Nat.reduceEqDiff, Nat.reducePow, reduceIte, ne_eq, false_and, and_false, exists_eq_left', or_true, true_or, or_false, false_or, nI1one, nI0one, bI0, bI1, bIor, bI_z, bI_1, Bool.not_eq_true, Bool.not_eq_false, Bool.true_eq_false, Bool.false_eq_true, FX11_search, PX11_search, hS.1, hS.2.2.2.1, s_thr, k_s_0, k_f_0_0, k_f_0_1, k_f_0_2, k_f_0_3, k_f_0_4, k_f_0_5, k_f_0_6, k_f_0_7, k_s_47, k_f_47_0, k_s_48, k_r_48, k_s_233, k_f_233_0, k_f_233_1, k_f_233_2, k_f_233_3, k_f_233_4, k_f_233_5, k_f_233_6, k_f_233_7, k_f_233_8, k_f_233_9, k_s_234, k_f_234_0, k_f_234_1, k_f_234_2, k_s_235, k_s_236, k_s_237, k_s_238, k_f_238_0, k_f_238_1, k_f_238_2, k_s_239, k_s_240, k_r_240, k_t_240, k_s_247, k_r_247, k_t_247, k_s_254, k_f_254_0, k_f_254_1, k_f_254_2, k_s_255, k_r_255, k_t_255, k_s_260, k_r_260, k_t_260, k_s_265, k_r_265, k_t_265, k_s_290, k_r_290, k_t_290, k_s_297, k_r_297, k_t_297, k_s_304, k_r_304, k_t_304, k_s_311, k_r_311, k_t_311, k_s_318, k_r_318, k_t_318, k_s_325, k_r_325, k_t_325, k_s_339, k_s_340, k_f_340_0, k_f_340_1, k_f_340_2, k_f_340_3, k_s_341, k_s_342, k_s_343, k_s_344, k_s_345, k_f_345_0, k_f_345_1, k_s_346, k_s_347, k_s_348, k_f_348_0, k_f_348_1, k_f_348_2, k_s_349, k_s_350, k_s_351, k_s_352, k_f_352_0, k_s_353, k_s_1, k_s_2, k_s_9, k_s_16, k_s_21, k_s_22, k_s_23, k_f_1_5, k_f_1_6, k_f_1_7, k_f_1_8, k_f_1_9, k_f_1_10, k_r_2, k_t_2, k_r_9, k_t_9, k_r_16, k_t_16]
  refine ⟨fun e => ?_, fun e => ?_⟩
  · rw [if_neg (by omega)] at hQ
    have hb : pU A.1 * pH A.1 ≤ 10 := by omega
    have sp := srF_spec (S := A.1) (2 ^ (pU A.1 * pH A.1))
    refine w_look hV (CS_frame hU hO hS (fun a j _ _ => by rw [upN (by omega)])) hb (tot_up hV) (fun I1 fd a1 a2 a3 a4 => ?_)
    have fr : ∀ q j, q < 235 ∨ (339 < q ∧ q < 348) ∨ 351 < q → ¬ (q = 0 ∧ j = 9) → I1 q j = I q j := fun q j z1 z2 => by rw [a4 _ _ z1, upN z2]
    have h9 : I1 0 9 = bI true := by rw [a4 _ _ (by omega), upS ⟨rfl, rfl⟩]; rfl
    have hC1 : CR A I1 := by
      refine ⟨hV, CS_frame hU hO hS (fun a j _ _ => fr _ _ (by omega) (by omega)), HR_frame hH (fun q j _ _ => fr _ _ (by omega) (by omega)), ⟨by rw [fr _ _ (by omega) (by omega)]; exact hsv.1, fun V hVV => ⟨(hsv.2 V hVV).1, CS_frame (hsv.2 V hVV).1.2.2.2.1 (hsv.2 V hVV).1.2.2.2.2.1 (hsv.2 V hVV).2 (fun a j _ _ => fr _ _ (by omega) (by omega))⟩⟩, XT_frame hT (fun q j _ _ => fr _ _ (by omega) (by omega)), true, h9, fun z => absurd z (by decide)⟩
    cases fd
    · simp (disch := omega) only [s_ic, s_li, s_la, s_si, s_sa, s_inc, s_bin, s_un, s_dup, s_dup2, s_pop, s_if, s_if2, s_gi, s_gr, s_pi, s_pz, s_al, s_aa, s_as, s_az, s_ac, s_mx, s_mn, s_cpy, s_kp, s_ri, s_rz, s_rv, s_cv, s_cs, s_rem, s_div, az_gl, az_sl, az_kp, az_pop, az_fun, az_funX, az_pat, az_in, List.map, List.replicate, List.length, List.cons_append, List.nil_append, Option.toList, f_add, f_sub, f_mul, f_neg, c_eq, c_ne, c_lt, c_ge, c_gt, c_le, d_eq, d_ne, d_lt, d_ge, d_gt, d_le, vinT, nIclamp, nIadd, nImul, nIeq, nIle, nIlt, nIlt0, nIge0, nIgt0, nIle0, nIeq0, ltT, ltF, leT, leF, eqT, eqF, upS, upN, k_n, az_setI, az_setA, true_and, and_true, and_self, true_implies, false_implies, implies_true, not_true_eq_false, not_false_eq_true, Nat.add_zero, Nat.zero_add, Nat.reduceAdd, Nat.reduceSub, Nat.reduceMul, Nat.reduceLT, Nat.reduceLeDiff, Nat.reduceEqDiff, Nat.reducePow, reduceIte, ne_eq, false_and, and_false, exists_eq_left', or_true, true_or, or_false, false_or, nI1one, nI0one, bI0, bI1, bIor, bI_z, bI_1, Bool.not_eq_true, Bool.not_eq_false, Bool.true_eq_false, Bool.false_eq_true, a1, s_thr, k_s_0, k_f_0_0, k_f_0_1, k_f_0_2, k_f_0_3, k_f_0_4, k_f_0_5, k_f_0_6, k_f_0_7, k_s_47, k_f_47_0, k_s_48, k_r_48, k_s_233, k_f_233_0, k_f_233_1, k_f_233_2, k_f_233_3, k_f_233_4, k_f_233_5, k_f_233_6, k_f_233_7, k_f_233_8, k_f_233_9, k_s_234, k_f_234_0, k_f_234_1, k_f_234_2, k_s_235, k_s_236, k_s_237, k_s_238, k_f_238_0, k_f_238_1, k_f_238_2, k_s_239, k_s_240, k_r_240, k_t_240, k_s_247, k_r_247, k_t_247, k_s_254, k_f_254_0, k_f_254_1, k_f_254_2, k_s_255, k_r_255, k_t_255, k_s_260, k_r_260, k_t_260, k_s_265, k_r_265, k_t_265, k_s_290, k_r_290, k_t_290, k_s_297, k_r_297, k_t_297, k_s_304, k_r_304, k_t_304, k_s_311, k_r_311, k_t_311, k_s_318, k_r_318, k_t_318, k_s_325, k_r_325, k_t_325, k_s_339, k_s_340, k_f_340_0, k_f_340_1, k_f_340_2, k_f_340_3, k_s_341, k_s_342, k_s_343, k_s_344, k_s_345, k_f_345_0, k_f_345_1, k_s_346, k_s_347, k_s_348, k_f_348_0, k_f_348_1, k_f_348_2, k_s_349, k_s_350, k_s_351, k_s_352, k_f_352_0, k_s_353, k_s_1, k_s_2, k_s_9, k_s_16, k_s_21, k_s_22, k_s_23, k_f_1_5, k_f_1_6, k_f_1_7, k_f_1_8, k_f_1_9, k_f_1_10, k_r_2, k_t_2, k_r_9, k_t_9, k_r_16, k_t_16]
      have hn : srF A.1 (2 ^ (pU A.1 * pH A.1)) = none := by
        cases hs : srF A.1 (2 ^ (pU A.1 * pH A.1)) with
        | none => rfl
        | some m =>
          obtain ⟨m1, m2, -⟩ := sp.2 m hs
          obtain ⟨d, d1, d2, d3⟩ := n_sq hV hb m1
          have := (a2 d d1 ((fe_sq (fun k _ => (d2 k).symm)).mpr m2)).1
          cases this
      rw [hn] at hQ
      exact hQ I1 hC1 (fun q j z => fr _ _ (by omega) (by omega))
    · simp (disch := omega) only [s_ic, s_li, s_la, s_si, s_sa, s_inc, s_bin, s_un, s_dup, s_dup2, s_pop, s_if, s_if2, s_gi, s_gr, s_pi, s_pz, s_al, s_aa, s_as, s_az, s_ac, s_mx, s_mn, s_cpy, s_kp, s_ri, s_rz, s_rv, s_cv, s_cs, s_rem, s_div, az_gl, az_sl, az_kp, az_pop, az_fun, az_funX, az_pat, az_in, List.map, List.replicate, List.length, List.cons_append, List.nil_append, Option.toList, f_add, f_sub, f_mul, f_neg, c_eq, c_ne, c_lt, c_ge, c_gt, c_le, d_eq, d_ne, d_lt, d_ge, d_gt, d_le, vinT, nIclamp, nIadd, nImul, nIeq, nIle, nIlt, nIlt0, nIge0, nIgt0, nIle0, nIeq0, ltT, ltF, leT, leF, eqT, eqF, upS, upN, k_n, az_setI, az_setA, true_and, and_true, and_self, true_implies, false_implies, implies_true, not_true_eq_false, not_false_eq_true, Nat.add_zero, Nat.zero_add, Nat.reduceAdd, Nat.reduceSub, Nat.reduceMul, Nat.reduceLT, Nat.reduceLeDiff, Nat.reduceEqDiff, Nat.reducePow, reduceIte, ne_eq, false_and, and_false, exists_eq_left', or_true, true_or, or_false, false_or, nI1one, nI0one, bI0, bI1, bIor, bI_z, bI_1, Bool.not_eq_true, Bool.not_eq_false, Bool.true_eq_false, Bool.false_eq_true, a1, k_s_0, k_f_0_0, k_f_0_1, k_f_0_2, k_f_0_3, k_f_0_4, k_f_0_5, k_f_0_6, k_f_0_7, k_s_47, k_f_47_0, k_s_48, k_r_48, k_s_233, k_f_233_0, k_f_233_1, k_f_233_2, k_f_233_3, k_f_233_4, k_f_233_5, k_f_233_6, k_f_233_7, k_f_233_8, k_f_233_9, k_s_234, k_f_234_0, k_f_234_1, k_f_234_2, k_s_235, k_s_236, k_s_237, k_s_238, k_f_238_0, k_f_238_1, k_f_238_2, k_s_239, k_s_240, k_r_240, k_t_240, k_s_247, k_r_247, k_t_247, k_s_254, k_f_254_0, k_f_254_1, k_f_254_2, k_s_255, k_r_255, k_t_255, k_s_260, k_r_260, k_t_260, k_s_265, k_r_265, k_t_265, k_s_290, k_r_290, k_t_290, k_s_297, k_r_297, k_t_297, k_s_304, k_r_304, k_t_304, k_s_311, k_r_311, k_t_311, k_s_318, k_r_318, k_t_318, k_s_325, k_r_325, k_t_325, k_s_339, k_s_340, k_f_340_0, k_f_340_1, k_f_340_2, k_f_340_3, k_s_341, k_s_342, k_s_343, k_s_344, k_s_345, k_f_345_0, k_f_345_1, k_s_346, k_s_347, k_s_348, k_f_348_0, k_f_348_1, k_f_348_2, k_s_349, k_s_350, k_s_351, k_s_352, k_f_352_0, k_s_353, k_s_1, k_s_2, k_s_9, k_s_16, k_s_21, k_s_22, k_s_23, k_f_1_5, k_f_1_6, k_f_1_7, k_f_1_8, k_f_1_9, k_f_1_10, k_r_2, k_t_2, k_r_9, k_t_9, k_r_16, k_t_16]
      obtain ⟨d, d1, d2, d3, d4, d5⟩ := a3 rfl
      obtain ⟨n, n1, n2, n3⟩ := sq_n hV hb d1
      have hfn : feN A.1 n := (fe_sq n3).mp d2
      obtain ⟨m, hm⟩ : ∃ m, srF A.1 (2 ^ (pU A.1 * pH A.1)) = some m := by
        cases hs : srF A.1 (2 ^ (pU A.1 * pH A.1)) with
        | none => exact absurd hfn (sp.1 hs n n1)
        | some m => exact ⟨m, rfl⟩
      obtain ⟨m1, m2, m3⟩ := sp.2 m hm
      obtain ⟨e', e1, e2, e3⟩ := n_sq hV hb m1
      have hl := (a2 e' e1 ((fe_sq (fun k _ => (e2 k).symm)).mpr m2)).2
      have hmn := m3 n n1 hfn
      rw [to_sq hV (n := m) (fun k _ => (e2 k).symm), e3, d3, d4, to_sq hV n3, n2] at hl
      have p10 : 2 ^ (pU A.1 * pH A.1) ≤ 2 ^ 10 := Nat.pow_le_pow_right (by decide) hb
      have hen : m = n := by
        unfold lexle at hl
        rw [lt_T, nIle ⟨by omega, by omega⟩] at hl
        rw [lt_T] at hmn
        rcases hl with q | q
        · rcases hmn with r | r
          · omega
          · rw [r.1] at q; omega
        · rcases hmn with r | r
          · rw [q.1] at r; omega
          · omega
      subst hen
      rw [hm] at hQ
      dsimp only at hQ
      refine w_beginChange hV hC1.2.1 hC1.2.2.1 (fun I2 b1 b2 b3 => ?_)
      have hS2 := CS_frame (I' := I2) hU hO hC1.2.1 (fun a j _ _ => b3 _ _ (by omega) (by omega))
      simp (disch := omega) only [s_ic, s_li, s_la, s_si, s_sa, s_inc, s_bin, s_un, s_dup, s_dup2, s_pop, s_if, s_if2, s_gi, s_gr, s_pi, s_pz, s_al, s_aa, s_as, s_az, s_ac, s_mx, s_mn, s_cpy, s_kp, s_ri, s_rz, s_rv, s_cv, s_cs, s_rem, s_div, az_gl, az_sl, az_kp, az_pop, az_fun, az_funX, az_pat, az_in, List.map, List.replicate, List.length, List.cons_append, List.nil_append, Option.toList, f_add, f_sub, f_mul, f_neg, c_eq, c_ne, c_lt, c_ge, c_gt, c_le, d_eq, d_ne, d_lt, d_ge, d_gt, d_le, vinT, nIclamp, nIadd, nImul, nIeq, nIle, nIlt, nIlt0, nIge0, nIgt0, nIle0, nIeq0, ltT, ltF, leT, leF, eqT, eqF, upS, upN, k_n, az_setI, az_setA, true_and, and_true, and_self, true_implies, false_implies, implies_true, not_true_eq_false, not_false_eq_true, Nat.add_zero, Nat.zero_add, Nat.reduceAdd, Nat.reduceSub, Nat.reduceMul, Nat.reduceLT, Nat.reduceLeDiff, Nat.reduceEqDiff, Nat.reducePow, reduceIte, ne_eq, false_and, and_false, exists_eq_left', or_true, true_or, or_false, false_or, nI1one, nI0one, bI0, bI1, bIor, bI_z, bI_1, Bool.not_eq_true, Bool.not_eq_false, Bool.true_eq_false, Bool.false_eq_true, k_s_0, k_f_0_0, k_f_0_1, k_f_0_2, k_f_0_3, k_f_0_4, k_f_0_5, k_f_0_6, k_f_0_7, k_s_47, k_f_47_0, k_s_48, k_r_48, k_s_233, k_f_233_0, k_f_233_1, k_f_233_2, k_f_233_3, k_f_233_4, k_f_233_5, k_f_233_6, k_f_233_7, k_f_233_8, k_f_233_9, k_s_234, k_f_234_0, k_f_234_1, k_f_234_2, k_s_235, k_s_236, k_s_237, k_s_238, k_f_238_0, k_f_238_1, k_f_238_2, k_s_239, k_s_240, k_r_240, k_t_240, k_s_247, k_r_247, k_t_247, k_s_254, k_f_254_0, k_f_254_1, k_f_254_2, k_s_255, k_r_255, k_t_255, k_s_260, k_r_260, k_t_260, k_s_265, k_r_265, k_t_265, k_s_290, k_r_290, k_t_290, k_s_297, k_r_297, k_t_297, k_s_304, k_r_304, k_t_304, k_s_311, k_r_311, k_t_311, k_s_318, k_r_318, k_t_318, k_s_325, k_r_325, k_t_325, k_s_339, k_s_340, k_f_340_0, k_f_340_1, k_f_340_2, k_f_340_3, k_s_341, k_s_342, k_s_343, k_s_344, k_s_345, k_f_345_0, k_f_345_1, k_s_346, k_s_347, k_s_348, k_f_348_0, k_f_348_1, k_f_348_2, k_s_349, k_s_350, k_s_351, k_s_352, k_f_352_0, k_s_353, k_s_1, k_s_2, k_s_9, k_s_16, k_s_21, k_s_22, k_s_23, k_f_1_5, k_f_1_6, k_f_1_7, k_f_1_8, k_f_1_9, k_f_1_10, k_r_2, k_t_2, k_r_9, k_t_9, k_r_16, k_t_16]
      refine w_writePlan (c := fun k => nI (d k)) hV hS2 (fun k hk => by rw [b3 _ _ (by omega) (by omega)]; exact d5 k hk) (fun I3 c1 c2 => ?_)
      have c4 : I3 348 4 = toN A.1 m := by rw [c2 _ _ (by omega), b3 _ _ (by omega) (by omega), d3]; exact to_sq hV n3
      simp (disch := omega) only [s_ic, s_li, s_la, s_si, s_sa, s_inc, s_bin, s_un, s_dup, s_dup2, s_pop, s_if, s_if2, s_gi, s_gr, s_pi, s_pz, s_al, s_aa, s_as, s_az, s_ac, s_mx, s_mn, s_cpy, s_kp, s_ri, s_rz, s_rv, s_cv, s_cs, s_rem, s_div, az_gl, az_sl, az_kp, az_pop, az_fun, az_funX, az_pat, az_in, List.map, List.replicate, List.length, List.cons_append, List.nil_append, Option.toList, f_add, f_sub, f_mul, f_neg, c_eq, c_ne, c_lt, c_ge, c_gt, c_le, d_eq, d_ne, d_lt, d_ge, d_gt, d_le, vinT, nIclamp, nIadd, nImul, nIeq, nIle, nIlt, nIlt0, nIge0, nIgt0, nIle0, nIeq0, ltT, ltF, leT, leF, eqT, eqF, upS, upN, k_n, az_setI, az_setA, true_and, and_true, and_self, true_implies, false_implies, implies_true, not_true_eq_false, not_false_eq_true, Nat.add_zero, Nat.zero_add, Nat.reduceAdd, Nat.reduceSub, Nat.reduceMul, Nat.reduceLT, Nat.reduceLeDiff, Nat.reduceEqDiff, Nat.reducePow, reduceIte, ne_eq, false_and, and_false, exists_eq_left', or_true, true_or, or_false, false_or, nI1one, nI0one, bI0, bI1, bIor, bI_z, bI_1, Bool.not_eq_true, Bool.not_eq_false, Bool.true_eq_false, Bool.false_eq_true, c4, k_s_0, k_f_0_0, k_f_0_1, k_f_0_2, k_f_0_3, k_f_0_4, k_f_0_5, k_f_0_6, k_f_0_7, k_s_47, k_f_47_0, k_s_48, k_r_48, k_s_233, k_f_233_0, k_f_233_1, k_f_233_2, k_f_233_3, k_f_233_4, k_f_233_5, k_f_233_6, k_f_233_7, k_f_233_8, k_f_233_9, k_s_234, k_f_234_0, k_f_234_1, k_f_234_2, k_s_235, k_s_236, k_s_237, k_s_238, k_f_238_0, k_f_238_1, k_f_238_2, k_s_239, k_s_240, k_r_240, k_t_240, k_s_247, k_r_247, k_t_247, k_s_254, k_f_254_0, k_f_254_1, k_f_254_2, k_s_255, k_r_255, k_t_255, k_s_260, k_r_260, k_t_260, k_s_265, k_r_265, k_t_265, k_s_290, k_r_290, k_t_290, k_s_297, k_r_297, k_t_297, k_s_304, k_r_304, k_t_304, k_s_311, k_r_311, k_t_311, k_s_318, k_r_318, k_t_318, k_s_325, k_r_325, k_t_325, k_s_339, k_s_340, k_f_340_0, k_f_340_1, k_f_340_2, k_f_340_3, k_s_341, k_s_342, k_s_343, k_s_344, k_s_345, k_f_345_0, k_f_345_1, k_s_346, k_s_347, k_s_348, k_f_348_0, k_f_348_1, k_f_348_2, k_s_349, k_s_350, k_s_351, k_s_352, k_f_352_0, k_s_353, k_s_1, k_s_2, k_s_9, k_s_16, k_s_21, k_s_22, k_s_23, k_f_1_5, k_f_1_6, k_f_1_7, k_f_1_8, k_f_1_9, k_f_1_10, k_r_2, k_t_2, k_r_9, k_t_9, k_r_16, k_t_16]
      refine hQ I3 (CR_chg hC1 (HR_frame b1 (fun q j _ _ => c2 _ _ (by omega))) (by rw [c2 _ _ (by omega)]; exact b2) (fun q j z => by rw [c2 _ _ (by omega), b3 _ _ (by omega) (by omega)]) (VS_SN hV m) (CS_P (fun u hu => ?_) c1)) (fun q j z => by rw [c2 _ _ (by omega), b3 _ _ (by omega) (by omega), fr _ _ (by omega) (by omega)])
      refine mkM_congr (fun h hh => ?_)
      have := n3 h hh
      show bt (sq d h) u = _
      rw [← this, sqN_bt hV (by omega), decide_eq_true hu, Bool.true_and]
  · rw [if_pos (by omega)] at hQ
    exact hQ I hC0 (fun _ _ _ => rfl)
