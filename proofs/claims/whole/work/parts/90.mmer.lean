set_option maxRecDepth 100000
set_option maxHeartbeats 4000000
/-! the model's plan by merit -/
theorem m_isCheaper {I : Nat → Nat → Int32} {R : RT} {S : PS} {x y : Nat} {Q : Option Value → az_M → Prop} (hU : pU S ≤ 6) (hS : CM S (I 355)) (hx : x < pU S) (hy : y < pU S) : FX12_isCheaper [.ref 354, .int (nI x), .int (nI y)] (K0, I, R) Q = Q (some (.int (bI (drB S true y x)))) (K0, I, R) := by
  simp (disch := omega) only [s_ic, s_li, s_la, s_si, s_sa, s_inc, s_bin, s_un, s_dup, s_dup2, s_pop, s_if, s_if2, s_gi, s_gr, s_pi, s_pz, s_al, s_aa, s_as, s_az, s_ac, s_mx, s_mn, s_cpy, s_kp, s_ri, s_rz, s_rv, s_cv, s_cs, s_rem, s_div, az_gl, az_sl, az_kp, az_pop, az_fun, az_funX, az_pat, az_in, List.map, List.replicate, List.length, List.cons_append, List.nil_append, Option.toList, f_add, f_sub, f_mul, f_neg, c_eq, c_ne, c_lt, c_ge, c_gt, c_le, d_eq, d_ne, d_lt, d_ge, d_gt, d_le, vinT, nIclamp, nIadd, nImul, nIeq, nIle, nIlt, nIlt0, nIge0, nIgt0, nIle0, nIeq0, ltT, ltF, leT, leF, eqT, eqF, upS, upN, k_n, az_setI, az_setA, true_and, and_true, and_self, true_implies, false_implies, implies_true, not_true_eq_false, not_false_eq_true, Nat.add_zero, Nat.zero_add, Nat.reduceAdd, Nat.reduceSub, Nat.reduceMul, Nat.reduceLT, Nat.reduceLeDiff, Nat.reduceEqDiff, Nat.reducePow, reduceIte, ne_eq, false_and, and_false, exists_eq_left', or_true, true_or, or_false, false_or, nI1one, nI0one, bI0, bI1, bIor, bI_z, bI_1, Bool.not_eq_true, Bool.not_eq_false, Bool.true_eq_false, Bool.false_eq_true, FX12_isCheaper, PX12_isCheaper, LX12_isCheaper_74, m_of hU hS hx, m_of hU hS hy, k_s_354, k_f_354_0, k_f_354_1, k_f_354_3, k_f_354_6, k_f_354_8, k_f_354_9, k_f_354_10, k_f_354_11, k_f_354_12, k_f_354_13, k_f_354_14, k_f_354_15, k_f_354_16, k_f_354_17, k_f_354_18, k_f_354_19, k_f_354_20, k_f_354_21, k_f_354_22, k_f_354_24, k_f_354_25, k_f_354_30, k_f_354_31, k_s_355, k_s_356, k_s_357, k_s_358, k_s_359, k_s_360, k_s_361, k_s_362, k_s_363, k_s_364, k_s_365, k_s_366, k_s_367, k_s_368, k_s_369, k_s_370, k_s_371, k_s_372, k_s_373, k_s_374, k_s_375, k_s_376, k_s_377, k_s_378, k_s_379, vu_n, vu_na, vu_ns, up_na]
  rw [show drB S true y x = decide ((pT S x 12 * pT S x 10 + pT S x 0) * pT S y 10 < (pT S y 12 * pT S y 10 + pT S y 0) * pT S x 10) from rfl]
  exact forkLe (fun b => Q (some (.int b)) (K0, I, R))
theorem P_13 {S : PS} {p : Nat → Int32} {u : Nat} : pT (setP S p) u 13 = p u := by
  show (if 13 = 13 then p u else pT S u 13) = p u
  rw [if_pos rfl]
/-- the plans when the units of a mask are planned in hour h -/
def plM (S : PS) (h : Nat) (m : Int32) (u : Nat) : Int32 := if bt m u = true then mkM (fun k => bt (mpM S (mpO S) k) u) h ||| (nI 1 <<< (nI h &&& 31)) else mkM (fun k => bt (mpM S (mpO S) k) u) h
theorem plM_hi {S : PS} {h u : Nat} {m : Int32} (hh : h < pH S) (hH : pH S ≤ 24) : ∀ i, pH S ≤ i → bt (plM S h m u) i = false := by
  intro i hi
  rcases Nat.lt_or_ge i 32 with q | q
  · unfold plM
    split
    · rw [b_or, b_mkM (by omega) q, b_one_shl (by omega) q, decide_eq_false (by omega), decide_eq_false (by omega)]; rfl
    · rw [b_mkM (by omega) q, decide_eq_false (by omega)]; rfl
  · exact b_big q
theorem or_bt {m : Int32} {u v : Nat} (hu : u < 32) (hv : v < 32) : bt (m ||| (nI 1 <<< (nI u &&& 31))) v = (bt m v || decide (v = u)) := by
  rw [b_or, b_one_shl hu hv]
theorem m_plan {I : Nat → Nat → Int32} {R : RT} {S : PS} {h u : Nat} {m : Int32} {Q : Option Value → az_M → Prop} (hV : VS S) (hh : h < pH S) (hu : u < pU S) (hm : bt m u = false) (hS : CM (setP S (plM S h m)) (I 355))
    (hQ : ∀ I', CM (setP S (plM S h (m ||| (nI 1 <<< (nI u &&& 31))))) (I' 355) → I' 359 (6 * h + u) = nI 1 → (∀ q j, q ≠ 355 → ¬ (q = 359 ∧ j = 6 * h + u) → I' q j = I q j) → Q none (K0, I', R)) : FX12_plan [.ref 354, .int (nI u), .int (nI h)] (K0, I, R) Q := by
  have hU := hV.2.2.2.1
  have hO := hV.2.2.2.2.1
  have hH := hV.1.2
  have c := hS.2.2.2.2.2.2.2.2.2.2.2.2.2.1 u 13 hu (by omega) (by omega)
  rw [P_13] at c
  simp (disch := omega) only [s_ic, s_li, s_la, s_si, s_sa, s_inc, s_bin, s_un, s_dup, s_dup2, s_pop, s_if, s_if2, s_gi, s_gr, s_pi, s_pz, s_al, s_aa, s_as, s_az, s_ac, s_mx, s_mn, s_cpy, s_kp, s_ri, s_rz, s_rv, s_cv, s_cs, s_rem, s_div, az_gl, az_sl, az_kp, az_pop, az_fun, az_funX, az_pat, az_in, List.map, List.replicate, List.length, List.cons_append, List.nil_append, Option.toList, f_add, f_sub, f_mul, f_neg, c_eq, c_ne, c_lt, c_ge, c_gt, c_le, d_eq, d_ne, d_lt, d_ge, d_gt, d_le, vinT, nIclamp, nIadd, nImul, nIeq, nIle, nIlt, nIlt0, nIge0, nIgt0, nIle0, nIeq0, ltT, ltF, leT, leF, eqT, eqF, upS, upN, k_n, az_setI, az_setA, true_and, and_true, and_self, true_implies, false_implies, implies_true, not_true_eq_false, not_false_eq_true, Nat.add_zero, Nat.zero_add, Nat.reduceAdd, Nat.reduceSub, Nat.reduceMul, Nat.reduceLT, Nat.reduceLeDiff, Nat.reduceEqDiff, Nat.reducePow, reduceIte, ne_eq, false_and, and_false, exists_eq_left', or_true, true_or, or_false, false_or, nI1one, nI0one, bI0, bI1, bIor, bI_z, bI_1, Bool.not_eq_true, Bool.not_eq_false, Bool.true_eq_false, Bool.false_eq_true, FX12_plan, PX12_plan, m_at, c, f_or, f_shl, k_s_354, k_f_354_0, k_f_354_1, k_f_354_3, k_f_354_6, k_f_354_8, k_f_354_9, k_f_354_10, k_f_354_11, k_f_354_12, k_f_354_13, k_f_354_14, k_f_354_15, k_f_354_16, k_f_354_17, k_f_354_18, k_f_354_19, k_f_354_20, k_f_354_21, k_f_354_22, k_f_354_24, k_f_354_25, k_f_354_30, k_f_354_31, k_s_355, k_s_356, k_s_357, k_s_358, k_s_359, k_s_360, k_s_361, k_s_362, k_s_363, k_s_364, k_s_365, k_s_366, k_s_367, k_s_368, k_s_369, k_s_370, k_s_371, k_s_372, k_s_373, k_s_374, k_s_375, k_s_376, k_s_377, k_s_378, k_s_379, vu_n, vu_na, vu_ns, up_na]
  refine hQ _ ?_ (by rw [upS ⟨rfl, rfl⟩]) (fun q j z1 z2 => by rw [upN z2, upN (by omega)])
  rw [up_na (by omega)]
  refine CM_set (S' := S) (p := plM S h m) hU hO hS (fun v hv => ?_) (fun j hj => by have := hj u hu; rw [upN (by omega)])
  by_cases e : v = u
  · rw [e, upS ⟨rfl, rfl⟩]
    unfold plM
    rw [or_bt (by omega) (by omega), hm, if_neg (by decide), if_pos (by simp)]
  · rw [upN (by omega)]
    have := hS.2.2.2.2.2.2.2.2.2.2.2.2.2.1 v 13 hv (by omega) (by omega)
    rw [this, P_13]
    unfold plM
    rw [or_bt (by omega) (by omega), decide_eq_false e, Bool.or_false]
theorem ch1_bt {S : PS} (hU : pU S ≤ 6) {aw : Int32} {up : Nat → Int32} {v : Nat} (hv : v < 32) : ∀ n, n ≤ pU S → bt (ch1F S aw up n).1 v = (decide (v < n) && (!bt aw v && sty S up v))
  | 0, _ => by show bt (nI 0) v = _; rw [nI_0, b_0]; rfl
  | n + 1, hn => by
    have ih := ch1_bt hU (aw := aw) (up := up) hv n (by omega)
    show bt (chA S (!bt aw n && sty S up n) n (ch1F S aw up n)).1 v = _
    unfold chA
    by_cases c : (!bt aw n && sty S up n) = true
    · rw [if_pos c]
      show bt ((ch1F S aw up n).1 ||| (nI 1 <<< (nI n &&& 31))) v = _
      rw [or_bt (by omega) hv, ih]
      by_cases e : v = n
      · rw [e, c, decide_eq_true (rfl : n = n), decide_eq_true (Nat.lt_succ_self n)]; simp
      · rw [decide_eq_false e, Bool.or_false, decide_eq_decide.mpr (show v < n ↔ v < n + 1 by omega)]
    · rw [if_neg c, ih]
      by_cases e : v = n
      · rw [e, decide_eq_false (Nat.lt_irrefl n), decide_eq_true (Nat.lt_succ_self n)]
        have : (!bt aw n && sty S up n) = false := by simpa using c
        rw [this]; rfl
      · rw [decide_eq_decide.mpr (show v < n ↔ v < n + 1 by omega)]
/-- who may still be planned -/
def rrB (S : PS) (aw : Int32) (up re : Nat → Int32) (u : Nat) : Bool := !bt aw u && !sty S up u && !rst S up re u
theorem ch2_skip {S : PS} {aw : Int32} {up re : Nat → Int32} {ord : Nat → Nat} {need : Int32} {s : Int32 × Int32} {i : Nat} : ∀ d, (∀ k, i ≤ k → k < i + d → rrB S aw up re (ord k) = false) → ch2F S aw up re ord need s (i + d) = ch2F S aw up re ord need s i
  | 0, _ => rfl
  | d + 1, h => by
    have ih := ch2_skip (S := S) (aw := aw) (up := up) (re := re) (ord := ord) (need := need) (s := s) (i := i) d (fun k q1 q2 => h k q1 (by omega))
    show chA S (rrB S aw up re (ord (i + d)) && decide ((ch2F S aw up re ord need s (i + d)).2 < need)) (ord (i + d)) (ch2F S aw up re ord need s (i + d)) = _
    rw [h (i + d) (by omega) (by omega), ih]; rfl
/-- units that may be planned later are not planned yet -/
theorem ch2_bt {S : PS} (hU : pU S ≤ 6) {aw : Int32} {up re : Nat → Int32} {ord : Nat → Nat} {need : Int32} {s : Int32 × Int32} {v : Nat} (hv : v < 32) (hor : ∀ i, i < pU S → ord i < pU S) (hs : bt s.1 v = false) : ∀ i, i ≤ pU S → (∀ k, k < i → ord k ≠ v) → bt (ch2F S aw up re ord need s i).1 v = false
  | 0, _, _ => hs
  | i + 1, hi, h => by
    have ih := ch2_bt hU (aw := aw) (up := up) (re := re) (ord := ord) (need := need) hv hor hs i (by omega) (fun k hk => h k (by omega))
    show bt (chA S _ (ord i) (ch2F S aw up re ord need s i)).1 v = false
    unfold chA
    split
    · show bt ((ch2F S aw up re ord need s i).1 ||| (nI 1 <<< (nI (ord i) &&& 31))) v = false
      have := hor i (by omega)
      rw [or_bt (by omega) hv, ih, decide_eq_false (fun z => h i (Nat.lt_succ_self i) z.symm)]; rfl
    · exact ih
theorem P_dr {S : PS} {p : Nat → Int32} {x y : Nat} : drB (setP S p) true x y = drB S true x y := rfl
theorem m_planHour {I : Nat → Nat → Int32} {R : RT} {S : PS} {h : Nat} {Q : Option Value → az_M → Prop} (hV : VS S) (hh : h < pH S) (hS : CM (setP S (plM S h 0)) (I 355)) (ht : ∀ o, o < pO S → I 358 o = nI (kwB S o)) (hP : ∀ u, u < pU S → PB S (mpM S (mpO S)) h u I)
    (hQ : ∀ I', CM (setP S (plM S h (mpM S (mpO S) h))) (I' 355) → (∀ u, u < pU S → I' 359 (6 * h + u) = bI (bt (mpM S (mpO S) h) u) ∧ I' 361 (6 * h + u) = tmU S (mpM S (mpO S)) h u ∧ I' 362 (6 * h + u) = tmR S (mpM S (mpO S)) h u) → (∀ q j, q ≠ 355 → q ≠ 372 → ¬ (359 ≤ q ∧ q ≤ 362 ∧ 6 * h ≤ j ∧ j < 6 * h + 6) → I' q j = I q j) → Q none (K0, I', R)) : FX12_planHour [.ref 354, .int (nI h)] (K0, I, R) Q := by
  have hU := hV.2.2.2.1
  have hO := hV.2.2.2.2.1
  have hH := hV.1.2
  have hVp : ∀ m, VS (setP S (plM S h m)) := fun m => VS_setP hV (fun u _ => plM_hi hh hH)
  have hSO : SO (drB S true) (pU S) (mpO S) := SO_ord (N := pU S) (WO_mean hV) (pU S) (Nat.le_refl _)
  have hWO := WO_mean hV
  have hor := hSO.1
  obtain ⟨aw, haw⟩ : ∃ aw, aw = awM S (kwE S) h (pO S) := ⟨_, rfl⟩
  obtain ⟨up, hup⟩ : ∃ up, up = tmU S (mpM S (mpO S)) h := ⟨_, rfl⟩
  obtain ⟨re, hre⟩ : ∃ re, re = tmR S (mpM S (mpO S)) h := ⟨_, rfl⟩
  obtain ⟨need, hnd⟩ : ∃ need, need = sI (fun c => pD S c h) (pB S) + pR S h := ⟨_, rfl⟩
  have hmp : mpM S (mpO S) h = (ch2F S aw up re (mpO S) need (ch1F S aw up (pU S)) (pU S)).1 := by
    show chF S h (awM S (kwE S) h (pO S)) (mpT S (mpO S) h).1 (mpT S (mpO S) h).2 (mpO S) = _
    rw [mpT_eq, haw, hup, hre, hnd]; rfl
  have r7 := hS.2.2.2.2.2.2.1 h (by omega)
  rw [show pR (setP S (plM S h 0)) h = pR S h from rfl] at r7
  simp (disch := omega) only [s_ic, s_li, s_la, s_si, s_sa, s_inc, s_bin, s_un, s_dup, s_dup2, s_pop, s_if, s_if2, s_gi, s_gr, s_pi, s_pz, s_al, s_aa, s_as, s_az, s_ac, s_mx, s_mn, s_cpy, s_kp, s_ri, s_rz, s_rv, s_cv, s_cs, s_rem, s_div, az_gl, az_sl, az_kp, az_pop, az_fun, az_funX, az_pat, az_in, List.map, List.replicate, List.length, List.cons_append, List.nil_append, Option.toList, f_add, f_sub, f_mul, f_neg, c_eq, c_ne, c_lt, c_ge, c_gt, c_le, d_eq, d_ne, d_lt, d_ge, d_gt, d_le, vinT, nIclamp, nIadd, nImul, nIeq, nIle, nIlt, nIlt0, nIge0, nIgt0, nIle0, nIeq0, ltT, ltF, leT, leF, eqT, eqF, upS, upN, k_n, az_setI, az_setA, true_and, and_true, and_self, true_implies, false_implies, implies_true, not_true_eq_false, not_false_eq_true, Nat.add_zero, Nat.zero_add, Nat.reduceAdd, Nat.reduceSub, Nat.reduceMul, Nat.reduceLT, Nat.reduceLeDiff, Nat.reduceEqDiff, Nat.reducePow, reduceIte, ne_eq, false_and, and_false, exists_eq_left', or_true, true_or, or_false, false_or, nI1one, nI0one, bI0, bI1, bIor, bI_z, bI_1, Bool.not_eq_true, Bool.not_eq_false, Bool.true_eq_false, Bool.false_eq_true, FX12_planHour, PX12_planHour, k_s_354, k_f_354_0, k_f_354_1, k_f_354_3, k_f_354_6, k_f_354_8, k_f_354_9, k_f_354_10, k_f_354_11, k_f_354_12, k_f_354_13, k_f_354_14, k_f_354_15, k_f_354_16, k_f_354_17, k_f_354_18, k_f_354_19, k_f_354_20, k_f_354_21, k_f_354_22, k_f_354_24, k_f_354_25, k_f_354_30, k_f_354_31, k_s_355, k_s_356, k_s_357, k_s_358, k_s_359, k_s_360, k_s_361, k_s_362, k_s_363, k_s_364, k_s_365, k_s_366, k_s_367, k_s_368, k_s_369, k_s_370, k_s_371, k_s_372, k_s_373, k_s_374, k_s_375, k_s_376, k_s_377, k_s_378, k_s_379, vu_n, vu_na, vu_ns, up_na]
  refine m_demandIn (hVp 0) hS (by omega) ?_
  simp (disch := omega) only [s_ic, s_li, s_la, s_si, s_sa, s_inc, s_bin, s_un, s_dup, s_dup2, s_pop, s_if, s_if2, s_gi, s_gr, s_pi, s_pz, s_al, s_aa, s_as, s_az, s_ac, s_mx, s_mn, s_cpy, s_kp, s_ri, s_rz, s_rv, s_cv, s_cs, s_rem, s_div, az_gl, az_sl, az_kp, az_pop, az_fun, az_funX, az_pat, az_in, List.map, List.replicate, List.length, List.cons_append, List.nil_append, Option.toList, f_add, f_sub, f_mul, f_neg, c_eq, c_ne, c_lt, c_ge, c_gt, c_le, d_eq, d_ne, d_lt, d_ge, d_gt, d_le, vinT, nIclamp, nIadd, nImul, nIeq, nIle, nIlt, nIlt0, nIge0, nIgt0, nIle0, nIeq0, ltT, ltF, leT, leF, eqT, eqF, upS, upN, k_n, az_setI, az_setA, true_and, and_true, and_self, true_implies, false_implies, implies_true, not_true_eq_false, not_false_eq_true, Nat.add_zero, Nat.zero_add, Nat.reduceAdd, Nat.reduceSub, Nat.reduceMul, Nat.reduceLT, Nat.reduceLeDiff, Nat.reduceEqDiff, Nat.reducePow, reduceIte, ne_eq, false_and, and_false, exists_eq_left', or_true, true_or, or_false, false_or, nI1one, nI0one, bI0, bI1, bIor, bI_z, bI_1, Bool.not_eq_true, Bool.not_eq_false, Bool.true_eq_false, Bool.false_eq_true, r7, LX12_planHour_21, k_s_354, k_f_354_0, k_f_354_1, k_f_354_3, k_f_354_6, k_f_354_8, k_f_354_9, k_f_354_10, k_f_354_11, k_f_354_12, k_f_354_13, k_f_354_14, k_f_354_15, k_f_354_16, k_f_354_17, k_f_354_18, k_f_354_19, k_f_354_20, k_f_354_21, k_f_354_22, k_f_354_24, k_f_354_25, k_f_354_30, k_f_354_31, k_s_355, k_s_356, k_s_357, k_s_358, k_s_359, k_s_360, k_s_361, k_s_362, k_s_363, k_s_364, k_s_365, k_s_366, k_s_367, k_s_368, k_s_369, k_s_370, k_s_371, k_s_372, k_s_373, k_s_374, k_s_375, k_s_376, k_s_377, k_s_378, k_s_379, vu_n, vu_na, vu_ns, up_na]
  rw [show sI (fun c => pD (setP S (plM S h 0)) c h) (pB (setP S (plM S h 0))) + pR S h = need from hnd.symm]
  have hav : ∀ m (J : Nat → Nat → Int32) u (Q : Option Value → az_M → Prop), CM (setP S (plM S h m)) (J 355) → (∀ o, o < pO S → J 358 o = nI (kwB S o)) → u < pU S → Q (some (.int (bI (!bt aw u)))) (K0, J, R) → FX12_isAvailable [.ref 354, .int (nI u), .int (nI h)] (K0, J, R) Q := by
    intro m J u Q h1 h2 hu h3
    refine m_isAvailable (hVp m) h1 (fun o ho => ?_) hu (by omega) ?_
    · rw [show kwB (setP S (plM S h m)) o = kwB S o by unfold kwB; rw [P_kwS]]; exact h2 o ho
    · rw [show awM (setP S (plM S h m)) (kwE (setP S (plM S h m))) h (pO (setP S (plM S h m))) = aw by rw [haw]; exact P_aw]; exact h3
  have hrb : ∀ m (J : Nat → Nat → Int32) u (Q : Option Value → az_M → Prop), CM (setP S (plM S h m)) (J 355) → u < pU S → (h = 0 ∨ J 359 (6 * (h - 1) + u) = bI (bt (mpM S (mpO S) (h - 1)) u)) → FX12_ranBefore [.ref 354, .int (nI u), .int (nI h)] (K0, J, R) Q = Q (some (.int (bI (decide (0 < up u))))) (K0, J, R) := by
    intro m J u Q h1 hu h2
    rw [m_ranBefore (rn := mpM S (mpO S)) (hVp m) h1 hu (by omega) h2, P_tmU, hup]
  have hlb : ∀ m (J : Nat → Nat → Int32) u (Q : Option Value → az_M → Prop), CM (setP S (plM S h m)) (J 355) → u < pU S → PB S (mpM S (mpO S)) h u J → (∀ I', I' 361 (6 * h + u) = up u → I' 362 (6 * h + u) = re u → (∀ q j, ¬ ((q = 361 ∨ q = 362) ∧ j = 6 * h + u) → I' q j = J q j) → Q none (K0, I', R)) → FX12_lookBack [.ref 354, .int (nI u), .int (nI h)] (K0, J, R) Q := by
    intro m J u Q h1 hu h2 h3
    refine m_lookBack (rn := mpM S (mpO S)) (hVp m) h1 hu (by omega) ?_ (fun I' a1 a2 a3 => h3 I' ?_ ?_ a3)
    · rcases h2 with q | ⟨q1, q2, q3⟩
      · exact Or.inl q
      · exact Or.inr ⟨q1, by rw [P_tmU]; exact q2, by rw [P_tmR]; exact q3⟩
    · rw [a1, P_tmU, hup]
    · rw [a2, P_tmR, hre]
  have pof : ∀ m u k, k ≠ 13 → pT (setP S (plM S h m)) u k = pT S u k := fun m u k hk => if_neg hk
  refine lp_mem (q := (0, 0)) (pU S) (fun n => [some (.ref 354), some (.int (nI h)), some (.int need), some (.int (ch1F S aw up n).2), some (.int (nI n)), none, none]) (fun n I1 => CM (setP S (plM S h (ch1F S aw up n).1)) (I1 355) ∧ (∀ v, v < n → I1 359 (6 * h + v) = bI (bt (ch1F S aw up n).1 v) ∧ I1 361 (6 * h + v) = up v ∧ I1 362 (6 * h + v) = re v ∧ I1 372 v = bI (!rrB S aw up re v)) ∧ ∀ q j, q ≠ 355 → q ≠ 372 → ¬ (359 ≤ q ∧ q ≤ 362 ∧ 6 * h ≤ j ∧ j < 6 * h + 6) → I1 q j = I q j) ⟨by rw [show (ch1F S aw up 0).1 = 0 from nI_0]; exact hS, fun v z => absurd z (Nat.not_lt_zero _), fun _ _ _ _ _ => rfl⟩ ?_ ?_
  · intro n hn I1 ⟨g1, g2, g3⟩ Z hZ
    have hnn : ¬ pU S ≤ n := by omega
    have c2 : I1 355 2 = nI (pU S) := g1.2.2.1
    have hm0 : bt (ch1F S aw up n).1 n = false := by rw [ch1_bt hU (by omega) n (by omega), decide_eq_false (Nat.lt_irrefl n)]; rfl
    have t1 : ∀ o, o < pO S → I1 358 o = nI (kwB S o) := fun o ho => by rw [g3 _ _ (by omega) (by omega) (by omega)]; exact ht o ho
    have pb1 : PB S (mpM S (mpO S)) h n I1 := by
      rcases hP n hn with q | ⟨q1, q2, q3⟩
      · exact Or.inl q
      · by_cases e0 : h = 0
        · exact Or.inl e0
        · refine Or.inr ⟨?_, ?_, ?_⟩
          · rw [g3 _ _ (by omega) (by omega) (by omega)]; exact q1
          · rw [g3 _ _ (by omega) (by omega) (by omega)]; exact q2
          · rw [g3 _ _ (by omega) (by omega) (by omega)]; exact q3
    simp (disch := omega) only [s_ic, s_li, s_la, s_si, s_sa, s_inc, s_bin, s_un, s_dup, s_dup2, s_pop, s_if, s_if2, s_gi, s_gr, s_pi, s_pz, s_al, s_aa, s_as, s_az, s_ac, s_mx, s_mn, s_cpy, s_kp, s_ri, s_rz, s_rv, s_cv, s_cs, s_rem, s_div, az_gl, az_sl, az_kp, az_pop, az_fun, az_funX, az_pat, az_in, List.map, List.replicate, List.length, List.cons_append, List.nil_append, Option.toList, f_add, f_sub, f_mul, f_neg, c_eq, c_ne, c_lt, c_ge, c_gt, c_le, d_eq, d_ne, d_lt, d_ge, d_gt, d_le, vinT, nIclamp, nIadd, nImul, nIeq, nIle, nIlt, nIlt0, nIge0, nIgt0, nIle0, nIeq0, ltT, ltF, leT, leF, eqT, eqF, upS, upN, k_n, az_setI, az_setA, true_and, and_true, and_self, true_implies, false_implies, implies_true, not_true_eq_false, not_false_eq_true, Nat.add_zero, Nat.zero_add, Nat.reduceAdd, Nat.reduceSub, Nat.reduceMul, Nat.reduceLT, Nat.reduceLeDiff, Nat.reduceEqDiff, Nat.reducePow, reduceIte, ne_eq, false_and, and_false, exists_eq_left', or_true, true_or, or_false, false_or, nI1one, nI0one, bI0, bI1, bIor, bI_z, bI_1, Bool.not_eq_true, Bool.not_eq_false, Bool.true_eq_false, Bool.false_eq_true, BX12_planHour_21, c2, hnn, k_s_354, k_f_354_0, k_f_354_1, k_f_354_3, k_f_354_6, k_f_354_8, k_f_354_9, k_f_354_10, k_f_354_11, k_f_354_12, k_f_354_13, k_f_354_14, k_f_354_15, k_f_354_16, k_f_354_17, k_f_354_18, k_f_354_19, k_f_354_20, k_f_354_21, k_f_354_22, k_f_354_24, k_f_354_25, k_f_354_30, k_f_354_31, k_s_355, k_s_356, k_s_357, k_s_358, k_s_359, k_s_360, k_s_361, k_s_362, k_s_363, k_s_364, k_s_365, k_s_366, k_s_367, k_s_368, k_s_369, k_s_370, k_s_371, k_s_372, k_s_373, k_s_374, k_s_375, k_s_376, k_s_377, k_s_378, k_s_379, vu_n, vu_na, vu_ns, up_na]
    refine hav _ _ n _ g1 t1 hn ?_
    simp (disch := omega) only [s_ic, s_li, s_la, s_si, s_sa, s_inc, s_bin, s_un, s_dup, s_dup2, s_pop, s_if, s_if2, s_gi, s_gr, s_pi, s_pz, s_al, s_aa, s_as, s_az, s_ac, s_mx, s_mn, s_cpy, s_kp, s_ri, s_rz, s_rv, s_cv, s_cs, s_rem, s_div, az_gl, az_sl, az_kp, az_pop, az_fun, az_funX, az_pat, az_in, List.map, List.replicate, List.length, List.cons_append, List.nil_append, Option.toList, f_add, f_sub, f_mul, f_neg, c_eq, c_ne, c_lt, c_ge, c_gt, c_le, d_eq, d_ne, d_lt, d_ge, d_gt, d_le, vinT, nIclamp, nIadd, nImul, nIeq, nIle, nIlt, nIlt0, nIge0, nIgt0, nIle0, nIeq0, ltT, ltF, leT, leF, eqT, eqF, upS, upN, k_n, az_setI, az_setA, true_and, and_true, and_self, true_implies, false_implies, implies_true, not_true_eq_false, not_false_eq_true, Nat.add_zero, Nat.zero_add, Nat.reduceAdd, Nat.reduceSub, Nat.reduceMul, Nat.reduceLT, Nat.reduceLeDiff, Nat.reduceEqDiff, Nat.reducePow, reduceIte, ne_eq, false_and, and_false, exists_eq_left', or_true, true_or, or_false, false_or, nI1one, nI0one, bI0, bI1, bIor, bI_z, bI_1, Bool.not_eq_true, Bool.not_eq_false, Bool.true_eq_false, Bool.false_eq_true, bIor2, k_s_354, k_f_354_0, k_f_354_1, k_f_354_3, k_f_354_6, k_f_354_8, k_f_354_9, k_f_354_10, k_f_354_11, k_f_354_12, k_f_354_13, k_f_354_14, k_f_354_15, k_f_354_16, k_f_354_17, k_f_354_18, k_f_354_19, k_f_354_20, k_f_354_21, k_f_354_22, k_f_354_24, k_f_354_25, k_f_354_30, k_f_354_31, k_s_355, k_s_356, k_s_357, k_s_358, k_s_359, k_s_360, k_s_361, k_s_362, k_s_363, k_s_364, k_s_365, k_s_366, k_s_367, k_s_368, k_s_369, k_s_370, k_s_371, k_s_372, k_s_373, k_s_374, k_s_375, k_s_376, k_s_377, k_s_378, k_s_379, vu_n, vu_na, vu_ns, up_na]
    refine hlb (ch1F S aw up n).1 _ n _ (by rw [up_na (by omega), up_na (by omega)]; exact g1) hn ?_ (fun I2 k1 k2 k3 => ?_)
    · rcases pb1 with q | ⟨q1, q2, q3⟩
      · exact Or.inl q
      · by_cases e0 : h = 0
        · exact Or.inl e0
        · refine Or.inr ⟨?_, ?_, ?_⟩
          · rw [upN (by omega), upN (by omega)]; exact q1
          · rw [upN (by omega), upN (by omega)]; exact q2
          · rw [upN (by omega), upN (by omega)]; exact q3
    have fr2 : ∀ q j, ¬ ((359 ≤ q ∧ q ≤ 362) ∧ j = 6 * h + n) → I2 q j = I1 q j := fun q j z => by rw [k3 _ _ (by omega), upN (by omega), upN (by omega)]
    have e360 : I2 360 (6 * h + n) = bI (!bt aw n) := by rw [k3 _ _ (by omega), upN (by omega), upS ⟨rfl, rfl⟩]
    have e359 : I2 359 (6 * h + n) = nI 0 := by rw [k3 _ _ (by omega), upS ⟨rfl, rfl⟩]
    have hS2 : CM (setP S (plM S h (ch1F S aw up n).1)) (I2 355) := by rw [show I2 355 = I1 355 from funext (fun j => fr2 _ _ (by omega))]; exact g1
    have pb2 : h = 0 ∨ I2 359 (6 * (h - 1) + n) = bI (bt (mpM S (mpO S) (h - 1)) n) := by
      by_cases e0 : h = 0
      · exact Or.inl e0
      · rcases pb1 with q | ⟨q1, -, -⟩
        · exact Or.inl q
        · exact Or.inr (by rw [fr2 _ _ (by omega)]; exact q1)
    clear k3
    have hst : ch1F S aw up (n + 1) = chA S (!bt aw n && sty S up n) n (ch1F S aw up n) := rfl
    rw [hst] at hZ
    -- the last part: whether the unit is still to be served
    have fin : ∀ b : Bool, (!bt aw n && sty S up n) = b → ∀ I3 x, x = (chA S b n (ch1F S aw up n)).2 → CM (setP S (plM S h (chA S b n (ch1F S aw up n)).1)) (I3 355) → I3 359 (6 * h + n) = bI b → (∀ q j, q ≠ 355 → ¬ (q = 359 ∧ j = 6 * h + n) → I3 q j = I2 q j) → LX12_planHour_125 Q Z [some (.ref 354), some (.int (nI h)), some (.int need), some (.int x), some (.int (nI n)), some (.int (nI (6 * h + n))), none] [] (0, 0) (K0, I3, R) := by
      intro b hb I3 x hx d1 d2 d3
      rw [hb] at hZ
      have f360 : I3 360 (6 * h + n) = bI (!bt aw n) := by rw [d3 _ _ (by omega) (by omega)]; exact e360
      have f361 : I3 361 (6 * h + n) = up n := by rw [d3 _ _ (by omega) (by omega)]; exact k1
      have f362 : I3 362 (6 * h + n) = re n := by rw [d3 _ _ (by omega) (by omega)]; exact k2
      have pb3 : h = 0 ∨ I3 359 (6 * (h - 1) + n) = bI (bt (mpM S (mpO S) (h - 1)) n) := by
        by_cases e0 : h = 0
        · exact Or.inl e0
        · exact Or.inr (by rw [d3 _ _ (by omega) (by omega)]; exact pb2.resolve_left e0)
      have fin2 : ∀ y, y = bI (!rrB S aw up re n) → LX12_planHour_183 Q Z [some (.ref 354), some (.int (nI h)), some (.int need), some (.int x), some (.int (nI n)), none, none] [.int y, .int (nI n), .ref 372] (0, 0) (K0, I3, R) := by
        intro y hy
        rw [hy, hx]
        simp (disch := omega) only [s_ic, s_li, s_la, s_si, s_sa, s_inc, s_bin, s_un, s_dup, s_dup2, s_pop, s_if, s_if2, s_gi, s_gr, s_pi, s_pz, s_al, s_aa, s_as, s_az, s_ac, s_mx, s_mn, s_cpy, s_kp, s_ri, s_rz, s_rv, s_cv, s_cs, s_rem, s_div, az_gl, az_sl, az_kp, az_pop, az_fun, az_funX, az_pat, az_in, List.map, List.replicate, List.length, List.cons_append, List.nil_append, Option.toList, f_add, f_sub, f_mul, f_neg, c_eq, c_ne, c_lt, c_ge, c_gt, c_le, d_eq, d_ne, d_lt, d_ge, d_gt, d_le, vinT, nIclamp, nIadd, nImul, nIeq, nIle, nIlt, nIlt0, nIge0, nIgt0, nIle0, nIeq0, ltT, ltF, leT, leF, eqT, eqF, upS, upN, k_n, az_setI, az_setA, true_and, and_true, and_self, true_implies, false_implies, implies_true, not_true_eq_false, not_false_eq_true, Nat.add_zero, Nat.zero_add, Nat.reduceAdd, Nat.reduceSub, Nat.reduceMul, Nat.reduceLT, Nat.reduceLeDiff, Nat.reduceEqDiff, Nat.reducePow, reduceIte, ne_eq, false_and, and_false, exists_eq_left', or_true, true_or, or_false, false_or, nI1one, nI0one, bI0, bI1, bIor, bI_z, bI_1, Bool.not_eq_true, Bool.not_eq_false, Bool.true_eq_false, Bool.false_eq_true, LX12_planHour_183, bIor2, k_s_354, k_f_354_0, k_f_354_1, k_f_354_3, k_f_354_6, k_f_354_8, k_f_354_9, k_f_354_10, k_f_354_11, k_f_354_12, k_f_354_13, k_f_354_14, k_f_354_15, k_f_354_16, k_f_354_17, k_f_354_18, k_f_354_19, k_f_354_20, k_f_354_21, k_f_354_22, k_f_354_24, k_f_354_25, k_f_354_30, k_f_354_31, k_s_355, k_s_356, k_s_357, k_s_358, k_s_359, k_s_360, k_s_361, k_s_362, k_s_363, k_s_364, k_s_365, k_s_366, k_s_367, k_s_368, k_s_369, k_s_370, k_s_371, k_s_372, k_s_373, k_s_374, k_s_375, k_s_376, k_s_377, k_s_378, k_s_379, vu_n, vu_na, vu_ns, up_na]
        refine hZ _ ⟨by rw [up_na (by omega)]; exact d1, fun v hv => ?_, fun q j z1 z2 z3 => by rw [upN (by omega), d3 _ _ z1 (by omega), fr2 _ _ (by omega)]; exact g3 q j z1 z2 z3⟩
        by_cases ev : v = n
        · rw [ev]
          refine ⟨?_, ?_, ?_, by rw [upS ⟨rfl, rfl⟩]⟩
          · rw [upN (by omega), d2]
            congr 1
            unfold chA
            cases b
            · rw [if_neg (by decide)]; exact hm0.symm
            · rw [if_pos rfl]
              show true = bt ((ch1F S aw up n).1 ||| (nI 1 <<< (nI n &&& 31))) n
              rw [or_bt (by omega) (by omega), decide_eq_true rfl, Bool.or_true]
          · rw [upN (by omega)]; exact f361
          · rw [upN (by omega)]; exact f362
        · obtain ⟨y1, y2, y3, y4⟩ := g2 v (by omega)
          refine ⟨?_, ?_, ?_, ?_⟩
          · rw [upN (by omega), d3 _ _ (by omega) (by omega), fr2 _ _ (by omega), y1]
            congr 1
            unfold chA
            split
            · show _ = bt ((ch1F S aw up n).1 ||| (nI 1 <<< (nI n &&& 31))) v
              rw [or_bt (by omega) (by omega), decide_eq_false ev, Bool.or_false]
            · rfl
          · rw [upN (by omega), d3 _ _ (by omega) (by omega), fr2 _ _ (by omega)]; exact y2
          · rw [upN (by omega), d3 _ _ (by omega) (by omega), fr2 _ _ (by omega)]; exact y3
          · rw [upN (by omega), d3 _ _ (by omega) (by omega), fr2 _ _ (by omega)]; exact y4
      clear hZ
      have rr : rrB S aw up re n = (!bt aw n && !sty S up n && !rst S up re n) := rfl
      unfold sty at hb rr
      unfold rst at rr
      rw [rr] at fin2
      cases b
      · cases ha : bt aw n
        · rw [ha] at f360 hb fin2
          cases hp : decide (0 < up n)
          · rw [hp] at fin2
            by_cases q : re n < pT S n 5
            · rw [decide_eq_true q] at fin2
              have q2 := Int32.not_le.mpr q
              simp (disch := omega) only [s_ic, s_li, s_la, s_si, s_sa, s_inc, s_bin, s_un, s_dup, s_dup2, s_pop, s_if, s_if2, s_gi, s_gr, s_pi, s_pz, s_al, s_aa, s_as, s_az, s_ac, s_mx, s_mn, s_cpy, s_kp, s_ri, s_rz, s_rv, s_cv, s_cs, s_rem, s_div, az_gl, az_sl, az_kp, az_pop, az_fun, az_funX, az_pat, az_in, List.map, List.replicate, List.length, List.cons_append, List.nil_append, Option.toList, f_add, f_sub, f_mul, f_neg, c_eq, c_ne, c_lt, c_ge, c_gt, c_le, d_eq, d_ne, d_lt, d_ge, d_gt, d_le, vinT, nIclamp, nIadd, nImul, nIeq, nIle, nIlt, nIlt0, nIge0, nIgt0, nIle0, nIeq0, ltT, ltF, leT, leF, eqT, eqF, upS, upN, k_n, az_setI, az_setA, true_and, and_true, and_self, true_implies, false_implies, implies_true, not_true_eq_false, not_false_eq_true, Nat.add_zero, Nat.zero_add, Nat.reduceAdd, Nat.reduceSub, Nat.reduceMul, Nat.reduceLT, Nat.reduceLeDiff, Nat.reduceEqDiff, Nat.reducePow, reduceIte, ne_eq, false_and, and_false, exists_eq_left', or_true, true_or, or_false, false_or, nI1one, nI0one, bI0, bI1, bIor, bI_z, bI_1, Bool.not_eq_true, Bool.not_eq_false, Bool.true_eq_false, Bool.false_eq_true, LX12_planHour_125, LX12_planHour_178, LX12_planHour_182, d2, f360, f362, hrb _ I3 n _ d1 hn pb3, hp, m_of (S := setP S (plM S h _)) hU d1 hn, pof, q2, Bool.not_false, k_s_354, k_f_354_0, k_f_354_1, k_f_354_3, k_f_354_6, k_f_354_8, k_f_354_9, k_f_354_10, k_f_354_11, k_f_354_12, k_f_354_13, k_f_354_14, k_f_354_15, k_f_354_16, k_f_354_17, k_f_354_18, k_f_354_19, k_f_354_20, k_f_354_21, k_f_354_22, k_f_354_24, k_f_354_25, k_f_354_30, k_f_354_31, k_s_355, k_s_356, k_s_357, k_s_358, k_s_359, k_s_360, k_s_361, k_s_362, k_s_363, k_s_364, k_s_365, k_s_366, k_s_367, k_s_368, k_s_369, k_s_370, k_s_371, k_s_372, k_s_373, k_s_374, k_s_375, k_s_376, k_s_377, k_s_378, k_s_379, vu_n, vu_na, vu_ns, up_na]
              exact fin2 _ rfl
            · rw [decide_eq_false q] at fin2
              have q2 := Int32.not_lt.mp q
              simp (disch := omega) only [s_ic, s_li, s_la, s_si, s_sa, s_inc, s_bin, s_un, s_dup, s_dup2, s_pop, s_if, s_if2, s_gi, s_gr, s_pi, s_pz, s_al, s_aa, s_as, s_az, s_ac, s_mx, s_mn, s_cpy, s_kp, s_ri, s_rz, s_rv, s_cv, s_cs, s_rem, s_div, az_gl, az_sl, az_kp, az_pop, az_fun, az_funX, az_pat, az_in, List.map, List.replicate, List.length, List.cons_append, List.nil_append, Option.toList, f_add, f_sub, f_mul, f_neg, c_eq, c_ne, c_lt, c_ge, c_gt, c_le, d_eq, d_ne, d_lt, d_ge, d_gt, d_le, vinT, nIclamp, nIadd, nImul, nIeq, nIle, nIlt, nIlt0, nIge0, nIgt0, nIle0, nIeq0, ltT, ltF, leT, leF, eqT, eqF, upS, upN, k_n, az_setI, az_setA, true_and, and_true, and_self, true_implies, false_implies, implies_true, not_true_eq_false, not_false_eq_true, Nat.add_zero, Nat.zero_add, Nat.reduceAdd, Nat.reduceSub, Nat.reduceMul, Nat.reduceLT, Nat.reduceLeDiff, Nat.reduceEqDiff, Nat.reducePow, reduceIte, ne_eq, false_and, and_false, exists_eq_left', or_true, true_or, or_false, false_or, nI1one, nI0one, bI0, bI1, bIor, bI_z, bI_1, Bool.not_eq_true, Bool.not_eq_false, Bool.true_eq_false, Bool.false_eq_true, LX12_planHour_125, LX12_planHour_178, LX12_planHour_182, d2, f360, f362, hrb _ I3 n _ d1 hn pb3, hp, m_of (S := setP S (plM S h _)) hU d1 hn, pof, q2, Bool.not_false, k_s_354, k_f_354_0, k_f_354_1, k_f_354_3, k_f_354_6, k_f_354_8, k_f_354_9, k_f_354_10, k_f_354_11, k_f_354_12, k_f_354_13, k_f_354_14, k_f_354_15, k_f_354_16, k_f_354_17, k_f_354_18, k_f_354_19, k_f_354_20, k_f_354_21, k_f_354_22, k_f_354_24, k_f_354_25, k_f_354_30, k_f_354_31, k_s_355, k_s_356, k_s_357, k_s_358, k_s_359, k_s_360, k_s_361, k_s_362, k_s_363, k_s_364, k_s_365, k_s_366, k_s_367, k_s_368, k_s_369, k_s_370, k_s_371, k_s_372, k_s_373, k_s_374, k_s_375, k_s_376, k_s_377, k_s_378, k_s_379, vu_n, vu_na, vu_ns, up_na]
              exact fin2 _ rfl
          · rw [hp] at fin2 hb
            have hs : decide (up n < pT S n 4) = false := by simpa using hb
            rw [hs] at fin2
            simp (disch := omega) only [s_ic, s_li, s_la, s_si, s_sa, s_inc, s_bin, s_un, s_dup, s_dup2, s_pop, s_if, s_if2, s_gi, s_gr, s_pi, s_pz, s_al, s_aa, s_as, s_az, s_ac, s_mx, s_mn, s_cpy, s_kp, s_ri, s_rz, s_rv, s_cv, s_cs, s_rem, s_div, az_gl, az_sl, az_kp, az_pop, az_fun, az_funX, az_pat, az_in, List.map, List.replicate, List.length, List.cons_append, List.nil_append, Option.toList, f_add, f_sub, f_mul, f_neg, c_eq, c_ne, c_lt, c_ge, c_gt, c_le, d_eq, d_ne, d_lt, d_ge, d_gt, d_le, vinT, nIclamp, nIadd, nImul, nIeq, nIle, nIlt, nIlt0, nIge0, nIgt0, nIle0, nIeq0, ltT, ltF, leT, leF, eqT, eqF, upS, upN, k_n, az_setI, az_setA, true_and, and_true, and_self, true_implies, false_implies, implies_true, not_true_eq_false, not_false_eq_true, Nat.add_zero, Nat.zero_add, Nat.reduceAdd, Nat.reduceSub, Nat.reduceMul, Nat.reduceLT, Nat.reduceLeDiff, Nat.reduceEqDiff, Nat.reducePow, reduceIte, ne_eq, false_and, and_false, exists_eq_left', or_true, true_or, or_false, false_or, nI1one, nI0one, bI0, bI1, bIor, bI_z, bI_1, Bool.not_eq_true, Bool.not_eq_false, Bool.true_eq_false, Bool.false_eq_true, LX12_planHour_125, LX12_planHour_178, LX12_planHour_182, d2, f360, f362, hrb _ I3 n _ d1 hn pb3, hp, Bool.not_false, k_s_354, k_f_354_0, k_f_354_1, k_f_354_3, k_f_354_6, k_f_354_8, k_f_354_9, k_f_354_10, k_f_354_11, k_f_354_12, k_f_354_13, k_f_354_14, k_f_354_15, k_f_354_16, k_f_354_17, k_f_354_18, k_f_354_19, k_f_354_20, k_f_354_21, k_f_354_22, k_f_354_24, k_f_354_25, k_f_354_30, k_f_354_31, k_s_355, k_s_356, k_s_357, k_s_358, k_s_359, k_s_360, k_s_361, k_s_362, k_s_363, k_s_364, k_s_365, k_s_366, k_s_367, k_s_368, k_s_369, k_s_370, k_s_371, k_s_372, k_s_373, k_s_374, k_s_375, k_s_376, k_s_377, k_s_378, k_s_379, vu_n, vu_na, vu_ns, up_na]
            exact fin2 _ rfl
        · rw [ha] at f360 fin2
          simp (disch := omega) only [s_ic, s_li, s_la, s_si, s_sa, s_inc, s_bin, s_un, s_dup, s_dup2, s_pop, s_if, s_if2, s_gi, s_gr, s_pi, s_pz, s_al, s_aa, s_as, s_az, s_ac, s_mx, s_mn, s_cpy, s_kp, s_ri, s_rz, s_rv, s_cv, s_cs, s_rem, s_div, az_gl, az_sl, az_kp, az_pop, az_fun, az_funX, az_pat, az_in, List.map, List.replicate, List.length, List.cons_append, List.nil_append, Option.toList, f_add, f_sub, f_mul, f_neg, c_eq, c_ne, c_lt, c_ge, c_gt, c_le, d_eq, d_ne, d_lt, d_ge, d_gt, d_le, vinT, nIclamp, nIadd, nImul, nIeq, nIle, nIlt, nIlt0, nIge0, nIgt0, nIle0, nIeq0, ltT, ltF, leT, leF, eqT, eqF, upS, upN, k_n, az_setI, az_setA, true_and, and_true, and_self, true_implies, false_implies, implies_true, not_true_eq_false, not_false_eq_true, Nat.add_zero, Nat.zero_add, Nat.reduceAdd, Nat.reduceSub, Nat.reduceMul, Nat.reduceLT, Nat.reduceLeDiff, Nat.reduceEqDiff, Nat.reducePow, reduceIte, ne_eq, false_and, and_false, exists_eq_left', or_true, true_or, or_false, false_or, nI1one, nI0one, bI0, bI1, bIor, bI_z, bI_1, Bool.not_eq_true, Bool.not_eq_false, Bool.true_eq_false, Bool.false_eq_true, LX12_planHour_125, LX12_planHour_178, LX12_planHour_182, d2, f360, Bool.not_true, k_s_354, k_f_354_0, k_f_354_1, k_f_354_3, k_f_354_6, k_f_354_8, k_f_354_9, k_f_354_10, k_f_354_11, k_f_354_12, k_f_354_13, k_f_354_14, k_f_354_15, k_f_354_16, k_f_354_17, k_f_354_18, k_f_354_19, k_f_354_20, k_f_354_21, k_f_354_22, k_f_354_24, k_f_354_25, k_f_354_30, k_f_354_31, k_s_355, k_s_356, k_s_357, k_s_358, k_s_359, k_s_360, k_s_361, k_s_362, k_s_363, k_s_364, k_s_365, k_s_366, k_s_367, k_s_368, k_s_369, k_s_370, k_s_371, k_s_372, k_s_373, k_s_374, k_s_375, k_s_376, k_s_377, k_s_378, k_s_379, vu_n, vu_na, vu_ns, up_na]
          exact fin2 _ rfl
      · have hs : decide (0 < up n) = true ∧ decide (up n < pT S n 4) = true ∧ bt aw n = false := by
          rw [Bool.and_eq_true, Bool.and_eq_true] at hb
          exact ⟨hb.2.1, hb.2.2, by simpa using hb.1⟩
        rw [hs.1, hs.2.1, hs.2.2] at fin2
        simp (disch := omega) only [s_ic, s_li, s_la, s_si, s_sa, s_inc, s_bin, s_un, s_dup, s_dup2, s_pop, s_if, s_if2, s_gi, s_gr, s_pi, s_pz, s_al, s_aa, s_as, s_az, s_ac, s_mx, s_mn, s_cpy, s_kp, s_ri, s_rz, s_rv, s_cv, s_cs, s_rem, s_div, az_gl, az_sl, az_kp, az_pop, az_fun, az_funX, az_pat, az_in, List.map, List.replicate, List.length, List.cons_append, List.nil_append, Option.toList, f_add, f_sub, f_mul, f_neg, c_eq, c_ne, c_lt, c_ge, c_gt, c_le, d_eq, d_ne, d_lt, d_ge, d_gt, d_le, vinT, nIclamp, nIadd, nImul, nIeq, nIle, nIlt, nIlt0, nIge0, nIgt0, nIle0, nIeq0, ltT, ltF, leT, leF, eqT, eqF, upS, upN, k_n, az_setI, az_setA, true_and, and_true, and_self, true_implies, false_implies, implies_true, not_true_eq_false, not_false_eq_true, Nat.add_zero, Nat.zero_add, Nat.reduceAdd, Nat.reduceSub, Nat.reduceMul, Nat.reduceLT, Nat.reduceLeDiff, Nat.reduceEqDiff, Nat.reducePow, reduceIte, ne_eq, false_and, and_false, exists_eq_left', or_true, true_or, or_false, false_or, nI1one, nI0one, bI0, bI1, bIor, bI_z, bI_1, Bool.not_eq_true, Bool.not_eq_false, Bool.true_eq_false, Bool.false_eq_true, LX12_planHour_125, LX12_planHour_178, d2, k_s_354, k_f_354_0, k_f_354_1, k_f_354_3, k_f_354_6, k_f_354_8, k_f_354_9, k_f_354_10, k_f_354_11, k_f_354_12, k_f_354_13, k_f_354_14, k_f_354_15, k_f_354_16, k_f_354_17, k_f_354_18, k_f_354_19, k_f_354_20, k_f_354_21, k_f_354_22, k_f_354_24, k_f_354_25, k_f_354_30, k_f_354_31, k_s_355, k_s_356, k_s_357, k_s_358, k_s_359, k_s_360, k_s_361, k_s_362, k_s_363, k_s_364, k_s_365, k_s_366, k_s_367, k_s_368, k_s_369, k_s_370, k_s_371, k_s_372, k_s_373, k_s_374, k_s_375, k_s_376, k_s_377, k_s_378, k_s_379, vu_n, vu_na, vu_ns, up_na]
        exact fin2 _ rfl
    cases ha : bt aw n
    · rw [ha] at e360 fin
      cases hp : decide (0 < up n)
      · have hb : (!false && sty S up n) = false := by unfold sty; rw [hp]; rfl
        simp (disch := omega) only [s_ic, s_li, s_la, s_si, s_sa, s_inc, s_bin, s_un, s_dup, s_dup2, s_pop, s_if, s_if2, s_gi, s_gr, s_pi, s_pz, s_al, s_aa, s_as, s_az, s_ac, s_mx, s_mn, s_cpy, s_kp, s_ri, s_rz, s_rv, s_cv, s_cs, s_rem, s_div, az_gl, az_sl, az_kp, az_pop, az_fun, az_funX, az_pat, az_in, List.map, List.replicate, List.length, List.cons_append, List.nil_append, Option.toList, f_add, f_sub, f_mul, f_neg, c_eq, c_ne, c_lt, c_ge, c_gt, c_le, d_eq, d_ne, d_lt, d_ge, d_gt, d_le, vinT, nIclamp, nIadd, nImul, nIeq, nIle, nIlt, nIlt0, nIge0, nIgt0, nIle0, nIeq0, ltT, ltF, leT, leF, eqT, eqF, upS, upN, k_n, az_setI, az_setA, true_and, and_true, and_self, true_implies, false_implies, implies_true, not_true_eq_false, not_false_eq_true, Nat.add_zero, Nat.zero_add, Nat.reduceAdd, Nat.reduceSub, Nat.reduceMul, Nat.reduceLT, Nat.reduceLeDiff, Nat.reduceEqDiff, Nat.reducePow, reduceIte, ne_eq, false_and, and_false, exists_eq_left', or_true, true_or, or_false, false_or, nI1one, nI0one, bI0, bI1, bIor, bI_z, bI_1, Bool.not_eq_true, Bool.not_eq_false, Bool.true_eq_false, Bool.false_eq_true, e360, hrb _ I2 n _ hS2 hn pb2, hp, Bool.not_false, k_s_354, k_f_354_0, k_f_354_1, k_f_354_3, k_f_354_6, k_f_354_8, k_f_354_9, k_f_354_10, k_f_354_11, k_f_354_12, k_f_354_13, k_f_354_14, k_f_354_15, k_f_354_16, k_f_354_17, k_f_354_18, k_f_354_19, k_f_354_20, k_f_354_21, k_f_354_22, k_f_354_24, k_f_354_25, k_f_354_30, k_f_354_31, k_s_355, k_s_356, k_s_357, k_s_358, k_s_359, k_s_360, k_s_361, k_s_362, k_s_363, k_s_364, k_s_365, k_s_366, k_s_367, k_s_368, k_s_369, k_s_370, k_s_371, k_s_372, k_s_373, k_s_374, k_s_375, k_s_376, k_s_377, k_s_378, k_s_379, vu_n, vu_na, vu_ns, up_na]
        refine fin false hb I2 _ ?_ ?_ e359 (fun _ _ _ _ => rfl)
        · rfl
        · exact hS2
      · by_cases q : up n < pT S n 4
        · have q2 := Int32.not_le.mpr q
          have hb : (!false && sty S up n) = true := by unfold sty; rw [hp, decide_eq_true q]; rfl
          simp (disch := omega) only [s_ic, s_li, s_la, s_si, s_sa, s_inc, s_bin, s_un, s_dup, s_dup2, s_pop, s_if, s_if2, s_gi, s_gr, s_pi, s_pz, s_al, s_aa, s_as, s_az, s_ac, s_mx, s_mn, s_cpy, s_kp, s_ri, s_rz, s_rv, s_cv, s_cs, s_rem, s_div, az_gl, az_sl, az_kp, az_pop, az_fun, az_funX, az_pat, az_in, List.map, List.replicate, List.length, List.cons_append, List.nil_append, Option.toList, f_add, f_sub, f_mul, f_neg, c_eq, c_ne, c_lt, c_ge, c_gt, c_le, d_eq, d_ne, d_lt, d_ge, d_gt, d_le, vinT, nIclamp, nIadd, nImul, nIeq, nIle, nIlt, nIlt0, nIge0, nIgt0, nIle0, nIeq0, ltT, ltF, leT, leF, eqT, eqF, upS, upN, k_n, az_setI, az_setA, true_and, and_true, and_self, true_implies, false_implies, implies_true, not_true_eq_false, not_false_eq_true, Nat.add_zero, Nat.zero_add, Nat.reduceAdd, Nat.reduceSub, Nat.reduceMul, Nat.reduceLT, Nat.reduceLeDiff, Nat.reduceEqDiff, Nat.reducePow, reduceIte, ne_eq, false_and, and_false, exists_eq_left', or_true, true_or, or_false, false_or, nI1one, nI0one, bI0, bI1, bIor, bI_z, bI_1, Bool.not_eq_true, Bool.not_eq_false, Bool.true_eq_false, Bool.false_eq_true, e360, hrb _ I2 n _ hS2 hn pb2, hp, k1, m_of (S := setP S (plM S h _)) hU hS2 hn, pof, q2, Bool.not_false, k_s_354, k_f_354_0, k_f_354_1, k_f_354_3, k_f_354_6, k_f_354_8, k_f_354_9, k_f_354_10, k_f_354_11, k_f_354_12, k_f_354_13, k_f_354_14, k_f_354_15, k_f_354_16, k_f_354_17, k_f_354_18, k_f_354_19, k_f_354_20, k_f_354_21, k_f_354_22, k_f_354_24, k_f_354_25, k_f_354_30, k_f_354_31, k_s_355, k_s_356, k_s_357, k_s_358, k_s_359, k_s_360, k_s_361, k_s_362, k_s_363, k_s_364, k_s_365, k_s_366, k_s_367, k_s_368, k_s_369, k_s_370, k_s_371, k_s_372, k_s_373, k_s_374, k_s_375, k_s_376, k_s_377, k_s_378, k_s_379, vu_n, vu_na, vu_ns, up_na]
          refine m_plan hV hh hn hm0 hS2 (fun I3 w1 w2 w3 => ?_)
          simp (disch := omega) only [s_ic, s_li, s_la, s_si, s_sa, s_inc, s_bin, s_un, s_dup, s_dup2, s_pop, s_if, s_if2, s_gi, s_gr, s_pi, s_pz, s_al, s_aa, s_as, s_az, s_ac, s_mx, s_mn, s_cpy, s_kp, s_ri, s_rz, s_rv, s_cv, s_cs, s_rem, s_div, az_gl, az_sl, az_kp, az_pop, az_fun, az_funX, az_pat, az_in, List.map, List.replicate, List.length, List.cons_append, List.nil_append, Option.toList, f_add, f_sub, f_mul, f_neg, c_eq, c_ne, c_lt, c_ge, c_gt, c_le, d_eq, d_ne, d_lt, d_ge, d_gt, d_le, vinT, nIclamp, nIadd, nImul, nIeq, nIle, nIlt, nIlt0, nIge0, nIgt0, nIle0, nIeq0, ltT, ltF, leT, leF, eqT, eqF, upS, upN, k_n, az_setI, az_setA, true_and, and_true, and_self, true_implies, false_implies, implies_true, not_true_eq_false, not_false_eq_true, Nat.add_zero, Nat.zero_add, Nat.reduceAdd, Nat.reduceSub, Nat.reduceMul, Nat.reduceLT, Nat.reduceLeDiff, Nat.reduceEqDiff, Nat.reducePow, reduceIte, ne_eq, false_and, and_false, exists_eq_left', or_true, true_or, or_false, false_or, nI1one, nI0one, bI0, bI1, bIor, bI_z, bI_1, Bool.not_eq_true, Bool.not_eq_false, Bool.true_eq_false, Bool.false_eq_true, m_of (S := setP S (plM S h _)) hU w1 hn, pof, k_s_354, k_f_354_0, k_f_354_1, k_f_354_3, k_f_354_6, k_f_354_8, k_f_354_9, k_f_354_10, k_f_354_11, k_f_354_12, k_f_354_13, k_f_354_14, k_f_354_15, k_f_354_16, k_f_354_17, k_f_354_18, k_f_354_19, k_f_354_20, k_f_354_21, k_f_354_22, k_f_354_24, k_f_354_25, k_f_354_30, k_f_354_31, k_s_355, k_s_356, k_s_357, k_s_358, k_s_359, k_s_360, k_s_361, k_s_362, k_s_363, k_s_364, k_s_365, k_s_366, k_s_367, k_s_368, k_s_369, k_s_370, k_s_371, k_s_372, k_s_373, k_s_374, k_s_375, k_s_376, k_s_377, k_s_378, k_s_379, vu_n, vu_na, vu_ns, up_na]
          exact fin true hb I3 _ rfl w1 w2 w3
        · have q2 := Int32.not_lt.mp q
          have hb : (!false && sty S up n) = false := by unfold sty; rw [hp, decide_eq_false q]; rfl
          simp (disch := omega) only [s_ic, s_li, s_la, s_si, s_sa, s_inc, s_bin, s_un, s_dup, s_dup2, s_pop, s_if, s_if2, s_gi, s_gr, s_pi, s_pz, s_al, s_aa, s_as, s_az, s_ac, s_mx, s_mn, s_cpy, s_kp, s_ri, s_rz, s_rv, s_cv, s_cs, s_rem, s_div, az_gl, az_sl, az_kp, az_pop, az_fun, az_funX, az_pat, az_in, List.map, List.replicate, List.length, List.cons_append, List.nil_append, Option.toList, f_add, f_sub, f_mul, f_neg, c_eq, c_ne, c_lt, c_ge, c_gt, c_le, d_eq, d_ne, d_lt, d_ge, d_gt, d_le, vinT, nIclamp, nIadd, nImul, nIeq, nIle, nIlt, nIlt0, nIge0, nIgt0, nIle0, nIeq0, ltT, ltF, leT, leF, eqT, eqF, upS, upN, k_n, az_setI, az_setA, true_and, and_true, and_self, true_implies, false_implies, implies_true, not_true_eq_false, not_false_eq_true, Nat.add_zero, Nat.zero_add, Nat.reduceAdd, Nat.reduceSub, Nat.reduceMul, Nat.reduceLT, Nat.reduceLeDiff, Nat.reduceEqDiff, Nat.reducePow, reduceIte, ne_eq, false_and, and_false, exists_eq_left', or_true, true_or, or_false, false_or, nI1one, nI0one, bI0, bI1, bIor, bI_z, bI_1, Bool.not_eq_true, Bool.not_eq_false, Bool.true_eq_false, Bool.false_eq_true, e360, hrb _ I2 n _ hS2 hn pb2, hp, k1, m_of (S := setP S (plM S h _)) hU hS2 hn, pof, q2, Bool.not_false, k_s_354, k_f_354_0, k_f_354_1, k_f_354_3, k_f_354_6, k_f_354_8, k_f_354_9, k_f_354_10, k_f_354_11, k_f_354_12, k_f_354_13, k_f_354_14, k_f_354_15, k_f_354_16, k_f_354_17, k_f_354_18, k_f_354_19, k_f_354_20, k_f_354_21, k_f_354_22, k_f_354_24, k_f_354_25, k_f_354_30, k_f_354_31, k_s_355, k_s_356, k_s_357, k_s_358, k_s_359, k_s_360, k_s_361, k_s_362, k_s_363, k_s_364, k_s_365, k_s_366, k_s_367, k_s_368, k_s_369, k_s_370, k_s_371, k_s_372, k_s_373, k_s_374, k_s_375, k_s_376, k_s_377, k_s_378, k_s_379, vu_n, vu_na, vu_ns, up_na]
          exact fin false hb I2 _ rfl hS2 e359 (fun _ _ _ _ => rfl)
    · rw [ha] at e360 fin
      have hb : (!true && sty S up n) = false := rfl
      simp (disch := omega) only [s_ic, s_li, s_la, s_si, s_sa, s_inc, s_bin, s_un, s_dup, s_dup2, s_pop, s_if, s_if2, s_gi, s_gr, s_pi, s_pz, s_al, s_aa, s_as, s_az, s_ac, s_mx, s_mn, s_cpy, s_kp, s_ri, s_rz, s_rv, s_cv, s_cs, s_rem, s_div, az_gl, az_sl, az_kp, az_pop, az_fun, az_funX, az_pat, az_in, List.map, List.replicate, List.length, List.cons_append, List.nil_append, Option.toList, f_add, f_sub, f_mul, f_neg, c_eq, c_ne, c_lt, c_ge, c_gt, c_le, d_eq, d_ne, d_lt, d_ge, d_gt, d_le, vinT, nIclamp, nIadd, nImul, nIeq, nIle, nIlt, nIlt0, nIge0, nIgt0, nIle0, nIeq0, ltT, ltF, leT, leF, eqT, eqF, upS, upN, k_n, az_setI, az_setA, true_and, and_true, and_self, true_implies, false_implies, implies_true, not_true_eq_false, not_false_eq_true, Nat.add_zero, Nat.zero_add, Nat.reduceAdd, Nat.reduceSub, Nat.reduceMul, Nat.reduceLT, Nat.reduceLeDiff, Nat.reduceEqDiff, Nat.reducePow, reduceIte, ne_eq, false_and, and_false, exists_eq_left', or_true, true_or, or_false, false_or, nI1one, nI0one, bI0, bI1, bIor, bI_z, bI_1, Bool.not_eq_true, Bool.not_eq_false, Bool.true_eq_false, Bool.false_eq_true, e360, Bool.not_true, k_s_354, k_f_354_0, k_f_354_1, k_f_354_3, k_f_354_6, k_f_354_8, k_f_354_9, k_f_354_10, k_f_354_11, k_f_354_12, k_f_354_13, k_f_354_14, k_f_354_15, k_f_354_16, k_f_354_17, k_f_354_18, k_f_354_19, k_f_354_20, k_f_354_21, k_f_354_22, k_f_354_24, k_f_354_25, k_f_354_30, k_f_354_31, k_s_355, k_s_356, k_s_357, k_s_358, k_s_359, k_s_360, k_s_361, k_s_362, k_s_363, k_s_364, k_s_365, k_s_366, k_s_367, k_s_368, k_s_369, k_s_370, k_s_371, k_s_372, k_s_373, k_s_374, k_s_375, k_s_376, k_s_377, k_s_378, k_s_379, vu_n, vu_na, vu_ns, up_na]
      exact fin false hb I2 _ rfl hS2 e359 (fun _ _ _ _ => rfl)
  · intro I1 ⟨g1, g2, g3⟩ Z
    have c2 : I1 355 2 = nI (pU S) := g1.2.2.1
    simp (disch := omega) only [s_ic, s_li, s_la, s_si, s_sa, s_inc, s_bin, s_un, s_dup, s_dup2, s_pop, s_if, s_if2, s_gi, s_gr, s_pi, s_pz, s_al, s_aa, s_as, s_az, s_ac, s_mx, s_mn, s_cpy, s_kp, s_ri, s_rz, s_rv, s_cv, s_cs, s_rem, s_div, az_gl, az_sl, az_kp, az_pop, az_fun, az_funX, az_pat, az_in, List.map, List.replicate, List.length, List.cons_append, List.nil_append, Option.toList, f_add, f_sub, f_mul, f_neg, c_eq, c_ne, c_lt, c_ge, c_gt, c_le, d_eq, d_ne, d_lt, d_ge, d_gt, d_le, vinT, nIclamp, nIadd, nImul, nIeq, nIle, nIlt, nIlt0, nIge0, nIgt0, nIle0, nIeq0, ltT, ltF, leT, leF, eqT, eqF, upS, upN, k_n, az_setI, az_setA, true_and, and_true, and_self, true_implies, false_implies, implies_true, not_true_eq_false, not_false_eq_true, Nat.add_zero, Nat.zero_add, Nat.reduceAdd, Nat.reduceSub, Nat.reduceMul, Nat.reduceLT, Nat.reduceLeDiff, Nat.reduceEqDiff, Nat.reducePow, reduceIte, ne_eq, false_and, and_false, exists_eq_left', or_true, true_or, or_false, false_or, nI1one, nI0one, bI0, bI1, bIor, bI_z, bI_1, Bool.not_eq_true, Bool.not_eq_false, Bool.true_eq_false, Bool.false_eq_true, BX12_planHour_21, c2, LX12_planHour_193, k_s_354, k_f_354_0, k_f_354_1, k_f_354_3, k_f_354_6, k_f_354_8, k_f_354_9, k_f_354_10, k_f_354_11, k_f_354_12, k_f_354_13, k_f_354_14, k_f_354_15, k_f_354_16, k_f_354_17, k_f_354_18, k_f_354_19, k_f_354_20, k_f_354_21, k_f_354_22, k_f_354_24, k_f_354_25, k_f_354_30, k_f_354_31, k_s_355, k_s_356, k_s_357, k_s_358, k_s_359, k_s_360, k_s_361, k_s_362, k_s_363, k_s_364, k_s_365, k_s_366, k_s_367, k_s_368, k_s_369, k_s_370, k_s_371, k_s_372, k_s_373, k_s_374, k_s_375, k_s_376, k_s_377, k_s_378, k_s_379, vu_n, vu_na, vu_ns, up_na]
    have hb1 : ∀ v, v < pU S → rrB S aw up re v = true → bt (ch1F S aw up (pU S)).1 v = false := by
      intro v hv hr
      rw [ch1_bt hU (by omega) _ (Nat.le_refl _)]
      unfold rrB at hr
      rw [Bool.and_eq_true, Bool.and_eq_true] at hr
      have : sty S up v = false := by simpa using hr.1.2
      rw [this]; simp
    generalize ch1F S aw up (pU S) = s0 at *
    obtain ⟨c, hc⟩ : ∃ c : Nat → Int32 × Int32, c = ch2F S aw up re (mpO S) need s0 := ⟨_, rfl⟩
    have hc0 : c 0 = s0 := by rw [hc]; rfl
    have hcs : ∀ i, c (i + 1) = chA S (rrB S aw up re (mpO S i) && decide ((c i).2 < need)) (mpO S i) (c i) := fun i => by rw [hc]; rfl
    have hck : ∀ i d, (∀ k, i ≤ k → k < i + d → rrB S aw up re (mpO S k) = false) → c (i + d) = c i := fun i d hd => by rw [hc]; exact ch2_skip d hd
    have hcb : ∀ i, i ≤ pU S → ∀ v, v < pU S → rrB S aw up re v = true → (∀ k, k < i → mpO S k ≠ v) → bt (c i).1 v = false := fun i hi v hv hr hne => by rw [hc]; exact ch2_bt hU (by omega) hor (hb1 v hv hr) i hi hne
    rw [← hc] at hmp
    clear hc hb1
    rw [← hc0] at g1 g2 ⊢
    clear hc0
    refine lp_gen (fun m l I2 => ∃ k i sv, l = [some (.ref 354), some (.int (nI h)), some (.int need), some (.int (c i).2), some (.int (nI k)), none, none] ∧ m = pU S - k ∧ k ≤ pU S ∧ k ≤ i ∧ i ≤ pU S ∧ SV (mpO S) (rrB S aw up re) (pU S) i sv ∧ (∀ v, v < pU S → I2 372 v = bI (sv v)) ∧ CM (setP S (plM S h (c i).1)) (I2 355) ∧ (∀ v, v < pU S → I2 359 (6 * h + v) = bI (bt (c i).1 v) ∧ I2 361 (6 * h + v) = up v ∧ I2 362 (6 * h + v) = re v) ∧ ∀ q j, q ≠ 355 → q ≠ 372 → ¬ (359 ≤ q ∧ q ≤ 362 ∧ 6 * h ≤ j ∧ j < 6 * h + 6) → I2 q j = I q j) ?_ (n := pU S - 0) ⟨0, 0, fun v => !rrB S aw up re v, rfl, rfl, Nat.zero_le _, Nat.le_refl _, Nat.zero_le _, fun v hv => ?_, fun v hv => (g2 v hv).2.2.2, g1, fun v hv => ⟨(g2 v hv).1, (g2 v hv).2.1, (g2 v hv).2.2.1⟩, g3⟩
    · intro m l I2 ⟨k, i, sv, hl, hm, p0, p1, p2, p3, p4, p5, p6, p7⟩ Z hZ
      subst hl
      have c2 : I2 355 2 = nI (pU S) := p5.2.2.1
      by_cases hk : k = pU S
      · have hkk : pU S ≤ k := by omega
        simp (disch := omega) only [s_ic, s_li, s_la, s_si, s_sa, s_inc, s_bin, s_un, s_dup, s_dup2, s_pop, s_if, s_if2, s_gi, s_gr, s_pi, s_pz, s_al, s_aa, s_as, s_az, s_ac, s_mx, s_mn, s_cpy, s_kp, s_ri, s_rz, s_rv, s_cv, s_cs, s_rem, s_div, az_gl, az_sl, az_kp, az_pop, az_fun, az_funX, az_pat, az_in, List.map, List.replicate, List.length, List.cons_append, List.nil_append, Option.toList, f_add, f_sub, f_mul, f_neg, c_eq, c_ne, c_lt, c_ge, c_gt, c_le, d_eq, d_ne, d_lt, d_ge, d_gt, d_le, vinT, nIclamp, nIadd, nImul, nIeq, nIle, nIlt, nIlt0, nIge0, nIgt0, nIle0, nIeq0, ltT, ltF, leT, leF, eqT, eqF, upS, upN, k_n, az_setI, az_setA, true_and, and_true, and_self, true_implies, false_implies, implies_true, not_true_eq_false, not_false_eq_true, Nat.add_zero, Nat.zero_add, Nat.reduceAdd, Nat.reduceSub, Nat.reduceMul, Nat.reduceLT, Nat.reduceLeDiff, Nat.reduceEqDiff, Nat.reducePow, reduceIte, ne_eq, false_and, and_false, exists_eq_left', or_true, true_or, or_false, false_or, nI1one, nI0one, bI0, bI1, bIor, bI_z, bI_1, Bool.not_eq_true, Bool.not_eq_false, Bool.true_eq_false, Bool.false_eq_true, BX12_planHour_193, c2, hkk, k_s_354, k_f_354_0, k_f_354_1, k_f_354_3, k_f_354_6, k_f_354_8, k_f_354_9, k_f_354_10, k_f_354_11, k_f_354_12, k_f_354_13, k_f_354_14, k_f_354_15, k_f_354_16, k_f_354_17, k_f_354_18, k_f_354_19, k_f_354_20, k_f_354_21, k_f_354_22, k_f_354_24, k_f_354_25, k_f_354_30, k_f_354_31, k_s_355, k_s_356, k_s_357, k_s_358, k_s_359, k_s_360, k_s_361, k_s_362, k_s_363, k_s_364, k_s_365, k_s_366, k_s_367, k_s_368, k_s_369, k_s_370, k_s_371, k_s_372, k_s_373, k_s_374, k_s_375, k_s_376, k_s_377, k_s_378, k_s_379, vu_n, vu_na, vu_ns, up_na]
        have ei : i = pU S := by omega
        rw [ei, ← hmp] at p5 p6
        rw [hup, hre] at p6
        exact hQ I2 p5 p6 p7
      · have hkk : ¬ pU S ≤ k := by omega
        simp (disch := omega) only [s_ic, s_li, s_la, s_si, s_sa, s_inc, s_bin, s_un, s_dup, s_dup2, s_pop, s_if, s_if2, s_gi, s_gr, s_pi, s_pz, s_al, s_aa, s_as, s_az, s_ac, s_mx, s_mn, s_cpy, s_kp, s_ri, s_rz, s_rv, s_cv, s_cs, s_rem, s_div, az_gl, az_sl, az_kp, az_pop, az_fun, az_funX, az_pat, az_in, List.map, List.replicate, List.length, List.cons_append, List.nil_append, Option.toList, f_add, f_sub, f_mul, f_neg, c_eq, c_ne, c_lt, c_ge, c_gt, c_le, d_eq, d_ne, d_lt, d_ge, d_gt, d_le, vinT, nIclamp, nIadd, nImul, nIeq, nIle, nIlt, nIlt0, nIge0, nIgt0, nIle0, nIeq0, ltT, ltF, leT, leF, eqT, eqF, upS, upN, k_n, az_setI, az_setA, true_and, and_true, and_self, true_implies, false_implies, implies_true, not_true_eq_false, not_false_eq_true, Nat.add_zero, Nat.zero_add, Nat.reduceAdd, Nat.reduceSub, Nat.reduceMul, Nat.reduceLT, Nat.reduceLeDiff, Nat.reduceEqDiff, Nat.reducePow, reduceIte, ne_eq, false_and, and_false, exists_eq_left', or_true, true_or, or_false, false_or, nI1one, nI0one, bI0, bI1, bIor, bI_z, bI_1, Bool.not_eq_true, Bool.not_eq_false, Bool.true_eq_false, Bool.false_eq_true, BX12_planHour_193, c2, hkk, LX12_planHour_210, k_s_354, k_f_354_0, k_f_354_1, k_f_354_3, k_f_354_6, k_f_354_8, k_f_354_9, k_f_354_10, k_f_354_11, k_f_354_12, k_f_354_13, k_f_354_14, k_f_354_15, k_f_354_16, k_f_354_17, k_f_354_18, k_f_354_19, k_f_354_20, k_f_354_21, k_f_354_22, k_f_354_24, k_f_354_25, k_f_354_30, k_f_354_31, k_s_355, k_s_356, k_s_357, k_s_358, k_s_359, k_s_360, k_s_361, k_s_362, k_s_363, k_s_364, k_s_365, k_s_366, k_s_367, k_s_368, k_s_369, k_s_370, k_s_371, k_s_372, k_s_373, k_s_374, k_s_375, k_s_376, k_s_377, k_s_378, k_s_379, vu_n, vu_na, vu_ns, up_na]
        refine lp_for (q := (0, 0)) (pU S) (fun u => [some (.ref 354), some (.int (nI h)), some (.int need), some (.int (c i).2), some (.int (nI k)), some (.int (oI (selN (drB S true) sv u))), some (.int (nI u))]) (fun _ => (K0, I2, R)) ?_ ?_
        · intro u hu Z2 hZ2
          have c372 := p4 u hu
          have hst : selN (drB S true) sv (u + 1) = if sv u = true then selN (drB S true) sv u else match selN (drB S true) sv u with
            | none => some u
            | some p => if drB S true p u = true then some u else some p := rfl
          rw [hst] at hZ2
          have hnu : ¬ pU S ≤ u := by omega
          have hsp := (selN_spec (sv := sv) hWO u (by omega)).1
          generalize selN (drB S true) sv u = nx at hZ2 hsp ⊢
          generalize sv u = b at hZ2 c372
          cases b
          · rw [if_neg (by decide)] at hZ2
            cases nx with
            | none =>
              have em : (-1 : Int32) < 0 := by decide
              simp (disch := omega) only [s_ic, s_li, s_la, s_si, s_sa, s_inc, s_bin, s_un, s_dup, s_dup2, s_pop, s_if, s_if2, s_gi, s_gr, s_pi, s_pz, s_al, s_aa, s_as, s_az, s_ac, s_mx, s_mn, s_cpy, s_kp, s_ri, s_rz, s_rv, s_cv, s_cs, s_rem, s_div, az_gl, az_sl, az_kp, az_pop, az_fun, az_funX, az_pat, az_in, List.map, List.replicate, List.length, List.cons_append, List.nil_append, Option.toList, f_add, f_sub, f_mul, f_neg, c_eq, c_ne, c_lt, c_ge, c_gt, c_le, d_eq, d_ne, d_lt, d_ge, d_gt, d_le, vinT, nIclamp, nIadd, nImul, nIeq, nIle, nIlt, nIlt0, nIge0, nIgt0, nIle0, nIeq0, ltT, ltF, leT, leF, eqT, eqF, upS, upN, k_n, az_setI, az_setA, true_and, and_true, and_self, true_implies, false_implies, implies_true, not_true_eq_false, not_false_eq_true, Nat.add_zero, Nat.zero_add, Nat.reduceAdd, Nat.reduceSub, Nat.reduceMul, Nat.reduceLT, Nat.reduceLeDiff, Nat.reduceEqDiff, Nat.reducePow, reduceIte, ne_eq, false_and, and_false, exists_eq_left', or_true, true_or, or_false, false_or, nI1one, nI0one, bI0, bI1, bIor, bI_z, bI_1, Bool.not_eq_true, Bool.not_eq_false, Bool.true_eq_false, Bool.false_eq_true, BX12_planHour_210, c2, hnu, c372, oI_n, em, LX12_planHour_247, LX12_planHour_254, k_s_354, k_f_354_0, k_f_354_1, k_f_354_3, k_f_354_6, k_f_354_8, k_f_354_9, k_f_354_10, k_f_354_11, k_f_354_12, k_f_354_13, k_f_354_14, k_f_354_15, k_f_354_16, k_f_354_17, k_f_354_18, k_f_354_19, k_f_354_20, k_f_354_21, k_f_354_22, k_f_354_24, k_f_354_25, k_f_354_30, k_f_354_31, k_s_355, k_s_356, k_s_357, k_s_358, k_s_359, k_s_360, k_s_361, k_s_362, k_s_363, k_s_364, k_s_365, k_s_366, k_s_367, k_s_368, k_s_369, k_s_370, k_s_371, k_s_372, k_s_373, k_s_374, k_s_375, k_s_376, k_s_377, k_s_378, k_s_379, vu_n, vu_na, vu_ns, up_na]
              exact hZ2
            | some p =>
              have hp := (hsp p rfl).1
              dsimp only at hZ2
              simp (disch := omega) only [s_ic, s_li, s_la, s_si, s_sa, s_inc, s_bin, s_un, s_dup, s_dup2, s_pop, s_if, s_if2, s_gi, s_gr, s_pi, s_pz, s_al, s_aa, s_as, s_az, s_ac, s_mx, s_mn, s_cpy, s_kp, s_ri, s_rz, s_rv, s_cv, s_cs, s_rem, s_div, az_gl, az_sl, az_kp, az_pop, az_fun, az_funX, az_pat, az_in, List.map, List.replicate, List.length, List.cons_append, List.nil_append, Option.toList, f_add, f_sub, f_mul, f_neg, c_eq, c_ne, c_lt, c_ge, c_gt, c_le, d_eq, d_ne, d_lt, d_ge, d_gt, d_le, vinT, nIclamp, nIadd, nImul, nIeq, nIle, nIlt, nIlt0, nIge0, nIgt0, nIle0, nIeq0, ltT, ltF, leT, leF, eqT, eqF, upS, upN, k_n, az_setI, az_setA, true_and, and_true, and_self, true_implies, false_implies, implies_true, not_true_eq_false, not_false_eq_true, Nat.add_zero, Nat.zero_add, Nat.reduceAdd, Nat.reduceSub, Nat.reduceMul, Nat.reduceLT, Nat.reduceLeDiff, Nat.reduceEqDiff, Nat.reducePow, reduceIte, ne_eq, false_and, and_false, exists_eq_left', or_true, true_or, or_false, false_or, nI1one, nI0one, bI0, bI1, bIor, bI_z, bI_1, Bool.not_eq_true, Bool.not_eq_false, Bool.true_eq_false, Bool.false_eq_true, BX12_planHour_210, c2, hnu, c372, oI_s, m_isCheaper (S := setP S (plM S h _)) hU p5 hu (show p < pU S by omega), P_dr, LX12_planHour_247, LX12_planHour_252, LX12_planHour_254, k_s_354, k_f_354_0, k_f_354_1, k_f_354_3, k_f_354_6, k_f_354_8, k_f_354_9, k_f_354_10, k_f_354_11, k_f_354_12, k_f_354_13, k_f_354_14, k_f_354_15, k_f_354_16, k_f_354_17, k_f_354_18, k_f_354_19, k_f_354_20, k_f_354_21, k_f_354_22, k_f_354_24, k_f_354_25, k_f_354_30, k_f_354_31, k_s_355, k_s_356, k_s_357, k_s_358, k_s_359, k_s_360, k_s_361, k_s_362, k_s_363, k_s_364, k_s_365, k_s_366, k_s_367, k_s_368, k_s_369, k_s_370, k_s_371, k_s_372, k_s_373, k_s_374, k_s_375, k_s_376, k_s_377, k_s_378, k_s_379, vu_n, vu_na, vu_ns, up_na]
              refine ⟨fun q => ?_, fun q => ?_⟩
              · rw [if_neg (by rw [q]; decide)] at hZ2; exact hZ2
              · rw [if_pos q] at hZ2; exact hZ2
          · rw [if_pos rfl] at hZ2
            simp (disch := omega) only [s_ic, s_li, s_la, s_si, s_sa, s_inc, s_bin, s_un, s_dup, s_dup2, s_pop, s_if, s_if2, s_gi, s_gr, s_pi, s_pz, s_al, s_aa, s_as, s_az, s_ac, s_mx, s_mn, s_cpy, s_kp, s_ri, s_rz, s_rv, s_cv, s_cs, s_rem, s_div, az_gl, az_sl, az_kp, az_pop, az_fun, az_funX, az_pat, az_in, List.map, List.replicate, List.length, List.cons_append, List.nil_append, Option.toList, f_add, f_sub, f_mul, f_neg, c_eq, c_ne, c_lt, c_ge, c_gt, c_le, d_eq, d_ne, d_lt, d_ge, d_gt, d_le, vinT, nIclamp, nIadd, nImul, nIeq, nIle, nIlt, nIlt0, nIge0, nIgt0, nIle0, nIeq0, ltT, ltF, leT, leF, eqT, eqF, upS, upN, k_n, az_setI, az_setA, true_and, and_true, and_self, true_implies, false_implies, implies_true, not_true_eq_false, not_false_eq_true, Nat.add_zero, Nat.zero_add, Nat.reduceAdd, Nat.reduceSub, Nat.reduceMul, Nat.reduceLT, Nat.reduceLeDiff, Nat.reduceEqDiff, Nat.reducePow, reduceIte, ne_eq, false_and, and_false, exists_eq_left', or_true, true_or, or_false, false_or, nI1one, nI0one, bI0, bI1, bIor, bI_z, bI_1, Bool.not_eq_true, Bool.not_eq_false, Bool.true_eq_false, Bool.false_eq_true, BX12_planHour_210, c2, hnu, c372, LX12_planHour_252, LX12_planHour_254, k_s_354, k_f_354_0, k_f_354_1, k_f_354_3, k_f_354_6, k_f_354_8, k_f_354_9, k_f_354_10, k_f_354_11, k_f_354_12, k_f_354_13, k_f_354_14, k_f_354_15, k_f_354_16, k_f_354_17, k_f_354_18, k_f_354_19, k_f_354_20, k_f_354_21, k_f_354_22, k_f_354_24, k_f_354_25, k_f_354_30, k_f_354_31, k_s_355, k_s_356, k_s_357, k_s_358, k_s_359, k_s_360, k_s_361, k_s_362, k_s_363, k_s_364, k_s_365, k_s_366, k_s_367, k_s_368, k_s_369, k_s_370, k_s_371, k_s_372, k_s_373, k_s_374, k_s_375, k_s_376, k_s_377, k_s_378, k_s_379, vu_n, vu_na, vu_ns, up_na]
            exact hZ2
        · intro Z2
          rcases sel_step hWO hSO p3 with ⟨e1, e2⟩ | ⟨j, j1, j2, e1, e2, e3, e4⟩
          · have em : (-1 : Int32) < 0 := by decide
            simp (disch := omega) only [s_ic, s_li, s_la, s_si, s_sa, s_inc, s_bin, s_un, s_dup, s_dup2, s_pop, s_if, s_if2, s_gi, s_gr, s_pi, s_pz, s_al, s_aa, s_as, s_az, s_ac, s_mx, s_mn, s_cpy, s_kp, s_ri, s_rz, s_rv, s_cv, s_cs, s_rem, s_div, az_gl, az_sl, az_kp, az_pop, az_fun, az_funX, az_pat, az_in, List.map, List.replicate, List.length, List.cons_append, List.nil_append, Option.toList, f_add, f_sub, f_mul, f_neg, c_eq, c_ne, c_lt, c_ge, c_gt, c_le, d_eq, d_ne, d_lt, d_ge, d_gt, d_le, vinT, nIclamp, nIadd, nImul, nIeq, nIle, nIlt, nIlt0, nIge0, nIgt0, nIle0, nIeq0, ltT, ltF, leT, leF, eqT, eqF, upS, upN, k_n, az_setI, az_setA, true_and, and_true, and_self, true_implies, false_implies, implies_true, not_true_eq_false, not_false_eq_true, Nat.add_zero, Nat.zero_add, Nat.reduceAdd, Nat.reduceSub, Nat.reduceMul, Nat.reduceLT, Nat.reduceLeDiff, Nat.reduceEqDiff, Nat.reducePow, reduceIte, ne_eq, false_and, and_false, exists_eq_left', or_true, true_or, or_false, false_or, nI1one, nI0one, bI0, bI1, bIor, bI_z, bI_1, Bool.not_eq_true, Bool.not_eq_false, Bool.true_eq_false, Bool.false_eq_true, BX12_planHour_210, c2, e1, oI_n, em, LX12_planHour_298, k_s_354, k_f_354_0, k_f_354_1, k_f_354_3, k_f_354_6, k_f_354_8, k_f_354_9, k_f_354_10, k_f_354_11, k_f_354_12, k_f_354_13, k_f_354_14, k_f_354_15, k_f_354_16, k_f_354_17, k_f_354_18, k_f_354_19, k_f_354_20, k_f_354_21, k_f_354_22, k_f_354_24, k_f_354_25, k_f_354_30, k_f_354_31, k_s_355, k_s_356, k_s_357, k_s_358, k_s_359, k_s_360, k_s_361, k_s_362, k_s_363, k_s_364, k_s_365, k_s_366, k_s_367, k_s_368, k_s_369, k_s_370, k_s_371, k_s_372, k_s_373, k_s_374, k_s_375, k_s_376, k_s_377, k_s_378, k_s_379, vu_n, vu_na, vu_ns, up_na]
            have hsk := hck i (pU S - i) (fun k q1 q2 => e2 k q1 (by omega))
            rw [show i + (pU S - i) = pU S by omega] at hsk
            rw [← hsk]
            refine hZ (pU S - (k + 1)) _ _ (by omega) ⟨k + 1, pU S, sv, rfl, rfl, by omega, by omega, Nat.le_refl _, fun v hv => ?_, p4, by rw [hsk]; exact p5, by rw [hsk]; exact p6, p7⟩
            rw [p3 v hv]
            constructor
            · rintro ⟨z1, j, z2, z3, z4⟩
              have := e2 j z2 z3
              rw [z4, z1] at this; cases this
            · rintro ⟨z1, j, z2, z3, z4⟩
              omega
          · have hpo := hor j j2
            have hsk := hck i (j - i) (fun k q1 q2 => e3 k q1 (by omega))
            rw [show i + (j - i) = j by omega] at hsk
            have hst := hcs j
            rw [e2, Bool.true_and, hsk] at hst
            have hne : ∀ k, k < i → mpO S k ≠ mpO S j := fun k hk z => by have := SO_inj hWO hSO (by omega) j2 z; omega
            have hbit := hcb i p2 _ hpo e2 hne
            have svn : ∀ J : Nat → Nat → Int32, (∀ v, J 372 v = az_up I2 372 (mpO S j) (nI 1) 372 v) → ∀ v, v < pU S → J 372 v = bI ((fun v => if v = mpO S j then true else sv v) v) := by
              intro J hJ v hv
              rw [hJ v]
              show _ = bI (if v = mpO S j then true else sv v)
              by_cases ev : v = mpO S j
              · rw [if_pos ev, ev, upS ⟨rfl, rfl⟩]; rfl
              · rw [if_neg ev, upN (by omega)]; exact p4 v hv
            by_cases q : (c i).2 < need
            · have q2 := Int32.not_le.mpr q
              rw [decide_eq_true q] at hst
              unfold chA at hst
              rw [if_pos rfl] at hst
              simp (disch := omega) only [s_ic, s_li, s_la, s_si, s_sa, s_inc, s_bin, s_un, s_dup, s_dup2, s_pop, s_if, s_if2, s_gi, s_gr, s_pi, s_pz, s_al, s_aa, s_as, s_az, s_ac, s_mx, s_mn, s_cpy, s_kp, s_ri, s_rz, s_rv, s_cv, s_cs, s_rem, s_div, az_gl, az_sl, az_kp, az_pop, az_fun, az_funX, az_pat, az_in, List.map, List.replicate, List.length, List.cons_append, List.nil_append, Option.toList, f_add, f_sub, f_mul, f_neg, c_eq, c_ne, c_lt, c_ge, c_gt, c_le, d_eq, d_ne, d_lt, d_ge, d_gt, d_le, vinT, nIclamp, nIadd, nImul, nIeq, nIle, nIlt, nIlt0, nIge0, nIgt0, nIle0, nIeq0, ltT, ltF, leT, leF, eqT, eqF, upS, upN, k_n, az_setI, az_setA, true_and, and_true, and_self, true_implies, false_implies, implies_true, not_true_eq_false, not_false_eq_true, Nat.add_zero, Nat.zero_add, Nat.reduceAdd, Nat.reduceSub, Nat.reduceMul, Nat.reduceLT, Nat.reduceLeDiff, Nat.reduceEqDiff, Nat.reducePow, reduceIte, ne_eq, false_and, and_false, exists_eq_left', or_true, true_or, or_false, false_or, nI1one, nI0one, bI0, bI1, bIor, bI_z, bI_1, Bool.not_eq_true, Bool.not_eq_false, Bool.true_eq_false, Bool.false_eq_true, BX12_planHour_210, c2, e1, oI_s, q2, k_s_354, k_f_354_0, k_f_354_1, k_f_354_3, k_f_354_6, k_f_354_8, k_f_354_9, k_f_354_10, k_f_354_11, k_f_354_12, k_f_354_13, k_f_354_14, k_f_354_15, k_f_354_16, k_f_354_17, k_f_354_18, k_f_354_19, k_f_354_20, k_f_354_21, k_f_354_22, k_f_354_24, k_f_354_25, k_f_354_30, k_f_354_31, k_s_355, k_s_356, k_s_357, k_s_358, k_s_359, k_s_360, k_s_361, k_s_362, k_s_363, k_s_364, k_s_365, k_s_366, k_s_367, k_s_368, k_s_369, k_s_370, k_s_371, k_s_372, k_s_373, k_s_374, k_s_375, k_s_376, k_s_377, k_s_378, k_s_379, vu_n, vu_na, vu_ns, up_na]
              refine m_plan hV hh hpo hbit (by rw [up_na (by omega)]; exact p5) (fun I3 w1 w2 w3 => ?_)
              simp (disch := omega) only [s_ic, s_li, s_la, s_si, s_sa, s_inc, s_bin, s_un, s_dup, s_dup2, s_pop, s_if, s_if2, s_gi, s_gr, s_pi, s_pz, s_al, s_aa, s_as, s_az, s_ac, s_mx, s_mn, s_cpy, s_kp, s_ri, s_rz, s_rv, s_cv, s_cs, s_rem, s_div, az_gl, az_sl, az_kp, az_pop, az_fun, az_funX, az_pat, az_in, List.map, List.replicate, List.length, List.cons_append, List.nil_append, Option.toList, f_add, f_sub, f_mul, f_neg, c_eq, c_ne, c_lt, c_ge, c_gt, c_le, d_eq, d_ne, d_lt, d_ge, d_gt, d_le, vinT, nIclamp, nIadd, nImul, nIeq, nIle, nIlt, nIlt0, nIge0, nIgt0, nIle0, nIeq0, ltT, ltF, leT, leF, eqT, eqF, upS, upN, k_n, az_setI, az_setA, true_and, and_true, and_self, true_implies, false_implies, implies_true, not_true_eq_false, not_false_eq_true, Nat.add_zero, Nat.zero_add, Nat.reduceAdd, Nat.reduceSub, Nat.reduceMul, Nat.reduceLT, Nat.reduceLeDiff, Nat.reduceEqDiff, Nat.reducePow, reduceIte, ne_eq, false_and, and_false, exists_eq_left', or_true, true_or, or_false, false_or, nI1one, nI0one, bI0, bI1, bIor, bI_z, bI_1, Bool.not_eq_true, Bool.not_eq_false, Bool.true_eq_false, Bool.false_eq_true, m_of (S := setP S (plM S h _)) hU w1 hpo, pof, LX12_planHour_298, k_s_354, k_f_354_0, k_f_354_1, k_f_354_3, k_f_354_6, k_f_354_8, k_f_354_9, k_f_354_10, k_f_354_11, k_f_354_12, k_f_354_13, k_f_354_14, k_f_354_15, k_f_354_16, k_f_354_17, k_f_354_18, k_f_354_19, k_f_354_20, k_f_354_21, k_f_354_22, k_f_354_24, k_f_354_25, k_f_354_30, k_f_354_31, k_s_355, k_s_356, k_s_357, k_s_358, k_s_359, k_s_360, k_s_361, k_s_362, k_s_363, k_s_364, k_s_365, k_s_366, k_s_367, k_s_368, k_s_369, k_s_370, k_s_371, k_s_372, k_s_373, k_s_374, k_s_375, k_s_376, k_s_377, k_s_378, k_s_379, vu_n, vu_na, vu_ns, up_na]
              rw [show (c i).2 + pT S (mpO S j) 10 = (c (j + 1)).2 by rw [hst]]
              refine hZ (pU S - (k + 1)) _ _ (by omega) ⟨k + 1, j + 1, fun v => if v = mpO S j then true else sv v, rfl, rfl, by omega, by omega, by omega, e4, svn I3 (fun v => w3 _ _ (by omega) (by omega)), by rw [hst]; exact w1, fun v hv => ?_, fun q jj z1 z2 z3 => by rw [w3 _ _ z1 (by omega), upN (by omega)]; exact p7 q jj z1 z2 z3⟩
              obtain ⟨y1, y2, y3⟩ := p6 v hv
              refine ⟨?_, by rw [w3 _ _ (by omega) (by omega), upN (by omega)]; exact y2, by rw [w3 _ _ (by omega) (by omega), upN (by omega)]; exact y3⟩
              rw [hst]
              show _ = bI (bt ((c i).1 ||| (nI 1 <<< (nI (mpO S j) &&& 31))) v)
              rw [or_bt (by omega) (by omega)]
              by_cases ev : v = mpO S j
              · rw [ev, w2, decide_eq_true rfl, Bool.or_true]; rfl
              · rw [decide_eq_false ev, Bool.or_false, w3 _ _ (by omega) (by omega), upN (by omega)]; exact y1
            · have q2 := Int32.not_lt.mp q
              rw [decide_eq_false q] at hst
              unfold chA at hst
              rw [if_neg (by decide)] at hst
              simp (disch := omega) only [s_ic, s_li, s_la, s_si, s_sa, s_inc, s_bin, s_un, s_dup, s_dup2, s_pop, s_if, s_if2, s_gi, s_gr, s_pi, s_pz, s_al, s_aa, s_as, s_az, s_ac, s_mx, s_mn, s_cpy, s_kp, s_ri, s_rz, s_rv, s_cv, s_cs, s_rem, s_div, az_gl, az_sl, az_kp, az_pop, az_fun, az_funX, az_pat, az_in, List.map, List.replicate, List.length, List.cons_append, List.nil_append, Option.toList, f_add, f_sub, f_mul, f_neg, c_eq, c_ne, c_lt, c_ge, c_gt, c_le, d_eq, d_ne, d_lt, d_ge, d_gt, d_le, vinT, nIclamp, nIadd, nImul, nIeq, nIle, nIlt, nIlt0, nIge0, nIgt0, nIle0, nIeq0, ltT, ltF, leT, leF, eqT, eqF, upS, upN, k_n, az_setI, az_setA, true_and, and_true, and_self, true_implies, false_implies, implies_true, not_true_eq_false, not_false_eq_true, Nat.add_zero, Nat.zero_add, Nat.reduceAdd, Nat.reduceSub, Nat.reduceMul, Nat.reduceLT, Nat.reduceLeDiff, Nat.reduceEqDiff, Nat.reducePow, reduceIte, ne_eq, false_and, and_false, exists_eq_left', or_true, true_or, or_false, false_or, nI1one, nI0one, bI0, bI1, bIor, bI_z, bI_1, Bool.not_eq_true, Bool.not_eq_false, Bool.true_eq_false, Bool.false_eq_true, BX12_planHour_210, c2, e1, oI_s, q2, LX12_planHour_298, k_s_354, k_f_354_0, k_f_354_1, k_f_354_3, k_f_354_6, k_f_354_8, k_f_354_9, k_f_354_10, k_f_354_11, k_f_354_12, k_f_354_13, k_f_354_14, k_f_354_15, k_f_354_16, k_f_354_17, k_f_354_18, k_f_354_19, k_f_354_20, k_f_354_21, k_f_354_22, k_f_354_24, k_f_354_25, k_f_354_30, k_f_354_31, k_s_355, k_s_356, k_s_357, k_s_358, k_s_359, k_s_360, k_s_361, k_s_362, k_s_363, k_s_364, k_s_365, k_s_366, k_s_367, k_s_368, k_s_369, k_s_370, k_s_371, k_s_372, k_s_373, k_s_374, k_s_375, k_s_376, k_s_377, k_s_378, k_s_379, vu_n, vu_na, vu_ns, up_na]
              rw [← hst]
              refine hZ (pU S - (k + 1)) _ _ (by omega) ⟨k + 1, j + 1, fun v => if v = mpO S j then true else sv v, rfl, rfl, by omega, by omega, by omega, e4, svn _ (fun v => rfl), by rw [hst, up_na (by omega)]; exact p5, fun v hv => ?_, fun q jj z1 z2 z3 => by rw [upN (by omega)]; exact p7 q jj z1 z2 z3⟩
              obtain ⟨y1, y2, y3⟩ := p6 v hv
              rw [hst]
              exact ⟨by rw [upN (by omega)]; exact y1, by rw [upN (by omega)]; exact y2, by rw [upN (by omega)]; exact y3⟩
    · obtain ⟨j, j1, j2⟩ := hSO.2.1 v hv
      constructor
      · intro z
        exact ⟨by simpa using z, j, Nat.zero_le _, j1, j2⟩
      · rintro ⟨z, -⟩
        simp [z]
