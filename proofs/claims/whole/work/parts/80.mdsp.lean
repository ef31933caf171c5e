set_option maxRecDepth 100000
set_option maxHeartbeats 4000000
/-- the model's grid of hour h holds e, for the units below n -/
def GM (S : PS) (h n : Nat) (e : ET) (I : Nat → Nat → Int32) : Prop := (∀ c, c < pB S → I 369 (4 * h + c) = e.1 c) ∧ (∀ c, c < pB S → I 370 (4 * h + c) = e.2.1 c) ∧ ∀ u c, u < n → c < pB S → I 368 (4 * (6 * h + u) + c) = e.2.2 (4 * u + c)
def IE (S : PS) (e : ET) : Prop := (∀ c, c < pB S → 0 ≤ (e.1 c).toInt) ∧ ∀ c, 1 ≤ c → c < 4 → -(pL S c).toInt ≤ (e.2.1 c).toInt ∧ (e.2.1 c).toInt ≤ (pL S c).toInt
theorem left_le {S : PS} (hV : VS S) {d : DT} {a : Nat} (ha : a < pB S) (hI : IV S d) : ∀ n, n ≤ pB S → (dIt S a d n).1.toInt ≤ d.1.toInt
  | 0, _ => by
    obtain ⟨q1, q2, -, -⟩ := amt_T hV ha ha hI
    have b1 := Int32.toInt_lt d.1
    show (d.1 - gAmt S d.2.1 d.2.2.1 a a d.1).toInt ≤ _
    rw [tI_sub (by omega)]; omega
  | n + 1, hn => by
    have ih := left_le hV ha hI n (by omega)
    have hi := IV_it hV ha hI n (by omega)
    show (dStep S a n (dIt S a d n)).1.toInt ≤ _
    unfold dStep
    split
    · obtain ⟨q1, q2, -, -⟩ := amt_T hV ha (show n < pB S by omega) hi
      have b1 := Int32.toInt_lt (dIt S a d n).1
      show ((dIt S a d n).1 - gAmt S (dIt S a d n).2.1 (dIt S a d n).2.2.1 a n (dIt S a d n).1).toInt ≤ _
      rw [tI_sub (by omega)]; omega
    · exact ih
theorem eDel_T {S : PS} (hV : VS S) {u : Nat} {x : Int32} {e : ET} (hu : u < pU S) (hx : 0 ≤ x.toInt) (hI : IE S e) : IE S (eDel S u x e).2 ∧ 0 ≤ (eDel S u x e).1.toInt ∧ (eDel S u x e).1.toInt ≤ x.toInt := by
  have hbu := (hV.2.2.2.2.2.1 u hu).1
  have hi : IV S (x, e.1, e.2.1, fun c => e.2.2 (4 * u + c)) := ⟨hx, hI.1, hI.2⟩
  have h1 := IV_it hV hbu hi (pB S) (Nat.le_refl _)
  have h2 := left_le hV hbu hi (pB S) (Nat.le_refl _)
  exact ⟨⟨h1.2.1, h1.2.2⟩, h1.1, h2⟩
theorem m_del {I : Nat → Nat → Int32} {R : RT} {S : PS} {h u n : Nat} {x : Int32} {e : ET} {Q : Option Value → az_M → Prop} (hV : VS S) (hS : CM S (I 355)) (hh : h < 24) (hu : u < pU S) (hun : u < n) (hn : n ≤ 6) (hG : GM S h n e I) (hI : IE S e) (hx : 0 ≤ x.toInt)
    (hQ : ∀ I', GM S h n (eDel S u x e).2 I' → (∀ q j, q ≠ 371 → ¬ ((q = 369 ∨ q = 370) ∧ 4 * h ≤ j ∧ j < 4 * h + 4) → ¬ (q = 368 ∧ 24 * h ≤ j ∧ j < 24 * h + 24) → I' q j = I q j) → Q (some (.int (eDel S u x e).1)) (K0, I', R)) : FX12_deliver [.ref 354, .int (nI u), .int (nI h), .int x] (K0, I, R) Q := by
  have hB := hV.2.1
  refine m_deliver (d := (x, e.1, e.2.1, fun c => e.2.2 (4 * u + c))) hV hS hh hu ⟨hG.1, hG.2.1, fun c hc => hG.2.2 u c hun hc⟩ ⟨hx, hI.1, hI.2⟩ (fun I' k1 k2 => hQ I' ⟨k1.1, k1.2.1, fun v c hv hc => ?_⟩ (fun q j z1 z2 z3 => k2 q j z1 z2 (by omega)))
  show I' 368 (4 * (6 * h + v) + c) = if 4 * u ≤ 4 * v + c ∧ 4 * v + c < 4 * u + 4 then _ else _
  by_cases ev : v = u
  · subst ev
    rw [if_pos (by omega), show 4 * v + c - 4 * v = c by omega]
    exact k1.2.2 c hc
  · rw [if_neg (by omega), k2 _ _ (by omega) (by omega) (by omega)]
    exact hG.2.2 v c hv hc
theorem l1F_0 {S : PS} {h : Nat} {run : Nat → Bool} {lo : Nat → Int32} : ∀ n, (∀ j, 4 * n ≤ j → (l1F S h run lo n).1.2.2 j = nI 0) ∧ ∀ u, n ≤ u → (l1F S h run lo n).2 u = nI 0
  | 0 => ⟨fun _ _ => rfl, fun _ _ => rfl⟩
  | n + 1 => by
    obtain ⟨i1, i2⟩ := l1F_0 (S := S) (h := h) (run := run) (lo := lo) n
    have hst : l1F S h run lo (n + 1) = l1S S n (run n) (lo n) (l1F S h run lo n) := rfl
    rw [hst]
    unfold l1S
    split
    · refine ⟨fun j hj => ?_, fun u hu => ?_⟩
      · show (if 4 * n ≤ j ∧ j < 4 * n + 4 then _ else (l1F S h run lo n).1.2.2 j) = _
        rw [if_neg (by omega)]; exact i1 j (by omega)
      · show va_up (l1F S h run lo n).2 n _ u = _
        unfold va_up
        rw [if_neg (by omega)]; exact i2 u (by omega)
    · exact ⟨fun j hj => i1 j (by omega), fun u hu => i2 u (by omega)⟩
theorem IE_0 {S : PS} (hV : VS S) {h : Nat} : IE S ((fun c => pD S c h, fun _ => nI 0, fun _ => nI 0) : ET) := by
  refine ⟨fun c _ => (hV.2.2.2.2.2.2.2.1 c h).1, fun c q1 q2 => ?_⟩
  have := (hV.2.2.2.2.2.2.2.2.2 c q1 q2).2
  unfold inI at this
  show -(pL S c).toInt ≤ (nI 0).toInt ∧ (nI 0).toInt ≤ (pL S c).toInt
  rw [nI_0, tI_0]; omega
theorem IE_l1 {S : PS} (hV : VS S) {h : Nat} {run : Nat → Bool} {lo : Nat → Int32} (hlo : ∀ u, u < pU S → run u = true → 0 ≤ (lo u).toInt) : ∀ n, n ≤ pU S → IE S (l1F S h run lo n).1
  | 0, _ => IE_0 hV
  | n + 1, hn => by
    have ih := IE_l1 hV (h := h) hlo n (by omega)
    have hst : l1F S h run lo (n + 1) = l1S S n (run n) (lo n) (l1F S h run lo n) := rfl
    rw [hst]
    unfold l1S
    split
    · rename_i hr
      exact (eDel_T hV (by omega) (hlo n (by omega) hr) ih).1
    · exact ih
theorem IE_l2 {S : PS} (hV : VS S) {ord : Nat → Nat} {run : Nat → Bool} {lo hi : Nat → Int32} {e : ET} (hor : ∀ i, i < pU S → ord i < pU S) (hlo : ∀ u, u < pU S → run u = true → 0 ≤ (hi u - lo u).toInt) (hI : IE S e) : ∀ n, n ≤ pU S → IE S (l2F S ord run lo hi e n).1
  | 0, _ => hI
  | n + 1, hn => by
    have ih := IE_l2 hV (ord := ord) hor hlo hI n (by omega)
    have hst : l2F S ord run lo hi e (n + 1) = l2S S (ord n) (run (ord n)) (hi (ord n) - lo (ord n)) (l2F S ord run lo hi e n) := rfl
    rw [hst]
    unfold l2S
    split
    · rename_i hr
      exact (eDel_T hV (hor n (by omega)) (hlo _ (hor n (by omega)) hr) ih).1
    · exact ih
/-- places of the order that do not run are passed over -/
theorem l2F_skip {S : PS} {ord : Nat → Nat} {run : Nat → Bool} {lo hi : Nat → Int32} {e : ET} {i : Nat} : ∀ d, (∀ k, i ≤ k → k < i + d → run (ord k) = false) → l2F S ord run lo hi e (i + d) = l2F S ord run lo hi e i
  | 0, _ => rfl
  | d + 1, h => by
    show l2S S (ord (i + d)) (run (ord (i + d))) _ (l2F S ord run lo hi e (i + d)) = _
    rw [h (i + d) (by omega) (by omega), l2F_skip d (fun k q1 q2 => h k q1 (by omega))]
    rfl
/-- the model's hour h holds t -/
def HM (S : PS) (h : Nat) (t : HT) (I : Nat → Nat → Int32) : Prop :=
  GM S h (pU S) t.1 I ∧ (∀ u, u < pU S → I 366 (6 * h + u) = t.2.1 u) ∧ (∀ u, u < pU S → I 365 (6 * h + u) = t.2.2.1 u) ∧ (∀ u, u < pU S → I 363 (6 * h + u) = t.2.2.2.1 u) ∧ (∀ u, u < pU S → I 364 (6 * h + u) = t.2.2.2.2.1 u) ∧ (∀ u, u < pU S → I 367 (6 * h + u) = t.2.2.2.2.2.1 u)
/-- what the model's dispatch leaves alone -/
def FD (h : Nat) (I I' : Nat → Nat → Int32) : Prop := ∀ q j, q ≠ 371 → q ≠ 372 → ¬ (363 ≤ q ∧ q ≤ 367 ∧ 6 * h ≤ j ∧ j < 6 * h + 6) → ¬ (q = 368 ∧ 24 * h ≤ j ∧ j < 24 * h + 24) → ¬ ((q = 369 ∨ q = 370) ∧ 4 * h ≤ j ∧ j < 4 * h + 4) → I' q j = I q j
/-- the second loop: by the costs -/
theorem m_d184 {I : Nat → Nat → Int32} {R : RT} {S : PS} {h : Nat} {run : Nat → Bool} {lo hi : Nat → Int32} {e : ET} {Q : Option Value → az_M → Prop} (hV : VS S) (hS : CM S (I 355)) (hh : h < 24) (hG : GM S h (pU S) e I) (hI : IE S e) (hlh : ∀ u, u < pU S → run u = true → 0 ≤ (hi u - lo u).toInt)
    (hlo : ∀ u, u < pU S → I 363 (6 * h + u) = lo u) (hhi : ∀ u, u < pU S → I 364 (6 * h + u) = hi u) (hou : ∀ u, u < pU S → I 365 (6 * h + u) = if run u = true then lo u else nI 0) (hsv : ∀ u, u < pU S → I 372 u = bI (!run u))
    (hQ : ∀ I', GM S h (pU S) (l2F S (oFd S) run lo hi e (pU S)).1 I' → (∀ u, u < pU S → I' 365 (6 * h + u) = (l2F S (oFd S) run lo hi e (pU S)).2 u) → (∀ q j, q ≠ 371 → q ≠ 372 → ¬ (q = 365 ∧ 6 * h ≤ j ∧ j < 6 * h + 6) → ¬ (q = 368 ∧ 24 * h ≤ j ∧ j < 24 * h + 24) → ¬ ((q = 369 ∨ q = 370) ∧ 4 * h ≤ j ∧ j < 4 * h + 4) → I' q j = I q j) → Q none (K0, I', R)) :
    LX12_dispatch_184 Q [some (.ref 354), some (.int (nI h)), some (.int (nI 0)), none, none, none] [] (0, 0) (K0, I, R) := by
  have hU := hV.2.2.2.1
  have hSO : SO (drB S false) (pU S) (oFd S) := SO_ord (N := pU S) WO_cost (pU S) (Nat.le_refl _)
  have hWO : WO (drB S false) (pU S) := WO_cost
  have hor := hSO.1
  simp (disch := omega) only [s_ic, s_li, s_la, s_si, s_sa, s_inc, s_bin, s_un, s_dup, s_dup2, s_pop, s_if, s_if2, s_gi, s_gr, s_pi, s_pz, s_al, s_aa, s_as, s_az, s_ac, s_mx, s_mn, s_cpy, s_kp, s_ri, s_rz, s_rv, s_cv, s_cs, s_rem, s_div, az_gl, az_sl, az_kp, az_pop, az_fun, az_funX, az_pat, az_in, List.map, List.replicate, List.length, List.cons_append, List.nil_append, Option.toList, f_add, f_sub, f_mul, f_neg, c_eq, c_ne, c_lt, c_ge, c_gt, c_le, d_eq, d_ne, d_lt, d_ge, d_gt, d_le, vinT, nIclamp, nIadd, nImul, nIeq, nIle, nIlt, nIlt0, nIge0, nIgt0, nIle0, nIeq0, ltT, ltF, leT, leF, eqT, eqF, upS, upN, k_n, az_setI, az_setA, true_and, and_true, and_self, true_implies, false_implies, implies_true, not_true_eq_false, not_false_eq_true, Nat.add_zero, Nat.zero_add, Nat.reduceAdd, Nat.reduceSub, Nat.reduceMul, Nat.reduceLT, Nat.reduceLeDiff, Nat.reduceEqDiff, Nat.reducePow, reduceIte, ne_eq, false_and, and_false, exists_eq_left', or_true, true_or, or_false, false_or, nI1one, nI0one, bI0, bI1, bIor, bI_z, bI_1, Bool.not_eq_true, Bool.not_eq_false, Bool.true_eq_false, Bool.false_eq_true, LX12_dispatch_184, k_s_354, k_f_354_0, k_f_354_1, k_f_354_3, k_f_354_6, k_f_354_8, k_f_354_9, k_f_354_10, k_f_354_11, k_f_354_12, k_f_354_13, k_f_354_14, k_f_354_15, k_f_354_16, k_f_354_17, k_f_354_18, k_f_354_19, k_f_354_20, k_f_354_21, k_f_354_22, k_f_354_24, k_f_354_25, k_f_354_30, k_f_354_31, k_s_355, k_s_356, k_s_357, k_s_358, k_s_359, k_s_360, k_s_361, k_s_362, k_s_363, k_s_364, k_s_365, k_s_366, k_s_367, k_s_368, k_s_369, k_s_370, k_s_371, k_s_372, k_s_373, k_s_374, k_s_375, k_s_376, k_s_377, k_s_378, k_s_379, vu_n, vu_na, vu_ns, up_na]
  refine lp_mem (q := (0, 0)) (pU S) (fun k => [some (.ref 354), some (.int (nI h)), some (.int (nI k)), none, none, none]) (fun k I1 => ∃ i sv, k ≤ i ∧ i ≤ pU S ∧ SV (oFd S) run (pU S) i sv ∧ (∀ u, u < pU S → I1 372 u = bI (sv u)) ∧ GM S h (pU S) (l2F S (oFd S) run lo hi e i).1 I1 ∧ (∀ u, u < pU S → I1 365 (6 * h + u) = (l2F S (oFd S) run lo hi e i).2 u) ∧ ∀ q j, q ≠ 371 → q ≠ 372 → ¬ (q = 365 ∧ 6 * h ≤ j ∧ j < 6 * h + 6) → ¬ (q = 368 ∧ 24 * h ≤ j ∧ j < 24 * h + 24) → ¬ ((q = 369 ∨ q = 370) ∧ 4 * h ≤ j ∧ j < 4 * h + 4) → I1 q j = I q j) ⟨0, fun u => !run u, Nat.le_refl _, Nat.zero_le _, fun v hv => ?_, hsv, hG, hou, fun _ _ _ _ _ _ _ => rfl⟩ ?_ ?_
  · obtain ⟨j, j1, j2⟩ := hSO.2.1 v hv
    constructor
    · intro z
      exact ⟨by simpa using z, j, Nat.zero_le _, j1, j2⟩
    · rintro ⟨z, -⟩
      simp [z]
  · intro k hk I1 ⟨i, sv, p1, p2, p3, p4, p5, p6, p7⟩ Z hZ
    have hS1 : CM S (I1 355) := by rw [show I1 355 = I 355 from funext (fun j => p7 _ _ (by omega) (by omega) (by omega) (by omega) (by omega))]; exact hS
    have hnk : ¬ pU S ≤ k := by omega
    simp (disch := omega) only [s_ic, s_li, s_la, s_si, s_sa, s_inc, s_bin, s_un, s_dup, s_dup2, s_pop, s_if, s_if2, s_gi, s_gr, s_pi, s_pz, s_al, s_aa, s_as, s_az, s_ac, s_mx, s_mn, s_cpy, s_kp, s_ri, s_rz, s_rv, s_cv, s_cs, s_rem, s_div, az_gl, az_sl, az_kp, az_pop, az_fun, az_funX, az_pat, az_in, List.map, List.replicate, List.length, List.cons_append, List.nil_append, Option.toList, f_add, f_sub, f_mul, f_neg, c_eq, c_ne, c_lt, c_ge, c_gt, c_le, d_eq, d_ne, d_lt, d_ge, d_gt, d_le, vinT, nIclamp, nIadd, nImul, nIeq, nIle, nIlt, nIlt0, nIge0, nIgt0, nIle0, nIeq0, ltT, ltF, leT, leF, eqT, eqF, upS, upN, k_n, az_setI, az_setA, true_and, and_true, and_self, true_implies, false_implies, implies_true, not_true_eq_false, not_false_eq_true, Nat.add_zero, Nat.zero_add, Nat.reduceAdd, Nat.reduceSub, Nat.reduceMul, Nat.reduceLT, Nat.reduceLeDiff, Nat.reduceEqDiff, Nat.reducePow, reduceIte, ne_eq, false_and, and_false, exists_eq_left', or_true, true_or, or_false, false_or, nI1one, nI0one, bI0, bI1, bIor, bI_z, bI_1, Bool.not_eq_true, Bool.not_eq_false, Bool.true_eq_false, Bool.false_eq_true, BX12_dispatch_184, hS1.2.2.1, hnk, LX12_dispatch_199, k_s_354, k_f_354_0, k_f_354_1, k_f_354_3, k_f_354_6, k_f_354_8, k_f_354_9, k_f_354_10, k_f_354_11, k_f_354_12, k_f_354_13, k_f_354_14, k_f_354_15, k_f_354_16, k_f_354_17, k_f_354_18, k_f_354_19, k_f_354_20, k_f_354_21, k_f_354_22, k_f_354_24, k_f_354_25, k_f_354_30, k_f_354_31, k_s_355, k_s_356, k_s_357, k_s_358, k_s_359, k_s_360, k_s_361, k_s_362, k_s_363, k_s_364, k_s_365, k_s_366, k_s_367, k_s_368, k_s_369, k_s_370, k_s_371, k_s_372, k_s_373, k_s_374, k_s_375, k_s_376, k_s_377, k_s_378, k_s_379, vu_n, vu_na, vu_ns, up_na]
    refine lp_for (q := (0, 0)) (pU S) (fun u => [some (.ref 354), some (.int (nI h)), some (.int (nI k)), some (.int (oI (selN (drB S false) sv u))), some (.int (nI u)), none]) (fun _ => (K0, I1, R)) ?_ ?_
    · intro u hu Z2 hZ2
      have c372 := p4 u hu
      have hst : selN (drB S false) sv (u + 1) = if sv u = true then selN (drB S false) sv u else match selN (drB S false) sv u with
        | none => some u
        | some p => if drB S false p u = true then some u else some p := rfl
      rw [hst] at hZ2
      have hnu : ¬ pU S ≤ u := by omega
      have hsp := (selN_spec (sv := sv) hWO u (by omega)).1
      generalize selN (drB S false) sv u = nx at hZ2 hsp ⊢
      generalize sv u = b at hZ2 c372
      cases b
      · rw [if_neg (by decide)] at hZ2
        cases nx with
        | none =>
          have em : (-1 : Int32) < 0 := by decide
          simp (disch := omega) only [s_ic, s_li, s_la, s_si, s_sa, s_inc, s_bin, s_un, s_dup, s_dup2, s_pop, s_if, s_if2, s_gi, s_gr, s_pi, s_pz, s_al, s_aa, s_as, s_az, s_ac, s_mx, s_mn, s_cpy, s_kp, s_ri, s_rz, s_rv, s_cv, s_cs, s_rem, s_div, az_gl, az_sl, az_kp, az_pop, az_fun, az_funX, az_pat, az_in, List.map, List.replicate, List.length, List.cons_append, List.nil_append, Option.toList, f_add, f_sub, f_mul, f_neg, c_eq, c_ne, c_lt, c_ge, c_gt, c_le, d_eq, d_ne, d_lt, d_ge, d_gt, d_le, vinT, nIclamp, nIadd, nImul, nIeq, nIle, nIlt, nIlt0, nIge0, nIgt0, nIle0, nIeq0, ltT, ltF, leT, leF, eqT, eqF, upS, upN, k_n, az_setI, az_setA, true_and, and_true, and_self, true_implies, false_implies, implies_true, not_true_eq_false, not_false_eq_true, Nat.add_zero, Nat.zero_add, Nat.reduceAdd, Nat.reduceSub, Nat.reduceMul, Nat.reduceLT, Nat.reduceLeDiff, Nat.reduceEqDiff, Nat.reducePow, reduceIte, ne_eq, false_and, and_false, exists_eq_left', or_true, true_or, or_false, false_or, nI1one, nI0one, bI0, bI1, bIor, bI_z, bI_1, Bool.not_eq_true, Bool.not_eq_false, Bool.true_eq_false, Bool.false_eq_true, BX12_dispatch_199, hS1.2.2.1, hnu, c372, oI_n, em, LX12_dispatch_242, LX12_dispatch_248, k_s_354, k_f_354_0, k_f_354_1, k_f_354_3, k_f_354_6, k_f_354_8, k_f_354_9, k_f_354_10, k_f_354_11, k_f_354_12, k_f_354_13, k_f_354_14, k_f_354_15, k_f_354_16, k_f_354_17, k_f_354_18, k_f_354_19, k_f_354_20, k_f_354_21, k_f_354_22, k_f_354_24, k_f_354_25, k_f_354_30, k_f_354_31, k_s_355, k_s_356, k_s_357, k_s_358, k_s_359, k_s_360, k_s_361, k_s_362, k_s_363, k_s_364, k_s_365, k_s_366, k_s_367, k_s_368, k_s_369, k_s_370, k_s_371, k_s_372, k_s_373, k_s_374, k_s_375, k_s_376, k_s_377, k_s_378, k_s_379, vu_n, vu_na, vu_ns, up_na]
          exact hZ2
        | some p =>
          have hp := (hsp p rfl).1
          dsimp only at hZ2
          have hdr : drB S false p u = decide (pT S u 12 < pT S p 12) := rfl
          rw [hdr] at hZ2
          simp (disch := omega) only [s_ic, s_li, s_la, s_si, s_sa, s_inc, s_bin, s_un, s_dup, s_dup2, s_pop, s_if, s_if2, s_gi, s_gr, s_pi, s_pz, s_al, s_aa, s_as, s_az, s_ac, s_mx, s_mn, s_cpy, s_kp, s_ri, s_rz, s_rv, s_cv, s_cs, s_rem, s_div, az_gl, az_sl, az_kp, az_pop, az_fun, az_funX, az_pat, az_in, List.map, List.replicate, List.length, List.cons_append, List.nil_append, Option.toList, f_add, f_sub, f_mul, f_neg, c_eq, c_ne, c_lt, c_ge, c_gt, c_le, d_eq, d_ne, d_lt, d_ge, d_gt, d_le, vinT, nIclamp, nIadd, nImul, nIeq, nIle, nIlt, nIlt0, nIge0, nIgt0, nIle0, nIeq0, ltT, ltF, leT, leF, eqT, eqF, upS, upN, k_n, az_setI, az_setA, true_and, and_true, and_self, true_implies, false_implies, implies_true, not_true_eq_false, not_false_eq_true, Nat.add_zero, Nat.zero_add, Nat.reduceAdd, Nat.reduceSub, Nat.reduceMul, Nat.reduceLT, Nat.reduceLeDiff, Nat.reduceEqDiff, Nat.reducePow, reduceIte, ne_eq, false_and, and_false, exists_eq_left', or_true, true_or, or_false, false_or, nI1one, nI0one, bI0, bI1, bIor, bI_z, bI_1, Bool.not_eq_true, Bool.not_eq_false, Bool.true_eq_false, Bool.false_eq_true, BX12_dispatch_199, hS1.2.2.1, hnu, c372, oI_s, m_of hU hS1, LX12_dispatch_242, LX12_dispatch_247, LX12_dispatch_248, k_s_354, k_f_354_0, k_f_354_1, k_f_354_3, k_f_354_6, k_f_354_8, k_f_354_9, k_f_354_10, k_f_354_11, k_f_354_12, k_f_354_13, k_f_354_14, k_f_354_15, k_f_354_16, k_f_354_17, k_f_354_18, k_f_354_19, k_f_354_20, k_f_354_21, k_f_354_22, k_f_354_24, k_f_354_25, k_f_354_30, k_f_354_31, k_s_355, k_s_356, k_s_357, k_s_358, k_s_359, k_s_360, k_s_361, k_s_362, k_s_363, k_s_364, k_s_365, k_s_366, k_s_367, k_s_368, k_s_369, k_s_370, k_s_371, k_s_372, k_s_373, k_s_374, k_s_375, k_s_376, k_s_377, k_s_378, k_s_379, vu_n, vu_na, vu_ns, up_na]
          refine ⟨fun q => ?_, fun q => ?_⟩
          · rw [decide_eq_false (Int32.not_lt.mpr q), if_neg (by decide)] at hZ2; exact hZ2
          · rw [decide_eq_true (Int32.not_le.mp q), if_pos rfl] at hZ2; exact hZ2
      · rw [if_pos rfl] at hZ2
        simp (disch := omega) only [s_ic, s_li, s_la, s_si, s_sa, s_inc, s_bin, s_un, s_dup, s_dup2, s_pop, s_if, s_if2, s_gi, s_gr, s_pi, s_pz, s_al, s_aa, s_as, s_az, s_ac, s_mx, s_mn, s_cpy, s_kp, s_ri, s_rz, s_rv, s_cv, s_cs, s_rem, s_div, az_gl, az_sl, az_kp, az_pop, az_fun, az_funX, az_pat, az_in, List.map, List.replicate, List.length, List.cons_append, List.nil_append, Option.toList, f_add, f_sub, f_mul, f_neg, c_eq, c_ne, c_lt, c_ge, c_gt, c_le, d_eq, d_ne, d_lt, d_ge, d_gt, d_le, vinT, nIclamp, nIadd, nImul, nIeq, nIle, nIlt, nIlt0, nIge0, nIgt0, nIle0, nIeq0, ltT, ltF, leT, leF, eqT, eqF, upS, upN, k_n, az_setI, az_setA, true_and, and_true, and_self, true_implies, false_implies, implies_true, not_true_eq_false, not_false_eq_true, Nat.add_zero, Nat.zero_add, Nat.reduceAdd, Nat.reduceSub, Nat.reduceMul, Nat.reduceLT, Nat.reduceLeDiff, Nat.reduceEqDiff, Nat.reducePow, reduceIte, ne_eq, false_and, and_false, exists_eq_left', or_true, true_or, or_false, false_or, nI1one, nI0one, bI0, bI1, bIor, bI_z, bI_1, Bool.not_eq_true, Bool.not_eq_false, Bool.true_eq_false, Bool.false_eq_true, BX12_dispatch_199, hS1.2.2.1, hnu, c372, LX12_dispatch_247, LX12_dispatch_248, k_s_354, k_f_354_0, k_f_354_1, k_f_354_3, k_f_354_6, k_f_354_8, k_f_354_9, k_f_354_10, k_f_354_11, k_f_354_12, k_f_354_13, k_f_354_14, k_f_354_15, k_f_354_16, k_f_354_17, k_f_354_18, k_f_354_19, k_f_354_20, k_f_354_21, k_f_354_22, k_f_354_24, k_f_354_25, k_f_354_30, k_f_354_31, k_s_355, k_s_356, k_s_357, k_s_358, k_s_359, k_s_360, k_s_361, k_s_362, k_s_363, k_s_364, k_s_365, k_s_366, k_s_367, k_s_368, k_s_369, k_s_370, k_s_371, k_s_372, k_s_373, k_s_374, k_s_375, k_s_376, k_s_377, k_s_378, k_s_379, vu_n, vu_na, vu_ns, up_na]
        exact hZ2
    · intro Z2
      rcases sel_step hWO hSO p3 with ⟨e1, e2⟩ | ⟨j, j1, j2, e1, e2, e3, e4⟩
      · have em : (-1 : Int32) < 0 := by decide
        simp (disch := omega) only [s_ic, s_li, s_la, s_si, s_sa, s_inc, s_bin, s_un, s_dup, s_dup2, s_pop, s_if, s_if2, s_gi, s_gr, s_pi, s_pz, s_al, s_aa, s_as, s_az, s_ac, s_mx, s_mn, s_cpy, s_kp, s_ri, s_rz, s_rv, s_cv, s_cs, s_rem, s_div, az_gl, az_sl, az_kp, az_pop, az_fun, az_funX, az_pat, az_in, List.map, List.replicate, List.length, List.cons_append, List.nil_append, Option.toList, f_add, f_sub, f_mul, f_neg, c_eq, c_ne, c_lt, c_ge, c_gt, c_le, d_eq, d_ne, d_lt, d_ge, d_gt, d_le, vinT, nIclamp, nIadd, nImul, nIeq, nIle, nIlt, nIlt0, nIge0, nIgt0, nIle0, nIeq0, ltT, ltF, leT, leF, eqT, eqF, upS, upN, k_n, az_setI, az_setA, true_and, and_true, and_self, true_implies, false_implies, implies_true, not_true_eq_false, not_false_eq_true, Nat.add_zero, Nat.zero_add, Nat.reduceAdd, Nat.reduceSub, Nat.reduceMul, Nat.reduceLT, Nat.reduceLeDiff, Nat.reduceEqDiff, Nat.reducePow, reduceIte, ne_eq, false_and, and_false, exists_eq_left', or_true, true_or, or_false, false_or, nI1one, nI0one, bI0, bI1, bIor, bI_z, bI_1, Bool.not_eq_true, Bool.not_eq_false, Bool.true_eq_false, Bool.false_eq_true, BX12_dispatch_199, hS1.2.2.1, e1, oI_n, em, LX12_dispatch_312, k_s_354, k_f_354_0, k_f_354_1, k_f_354_3, k_f_354_6, k_f_354_8, k_f_354_9, k_f_354_10, k_f_354_11, k_f_354_12, k_f_354_13, k_f_354_14, k_f_354_15, k_f_354_16, k_f_354_17, k_f_354_18, k_f_354_19, k_f_354_20, k_f_354_21, k_f_354_22, k_f_354_24, k_f_354_25, k_f_354_30, k_f_354_31, k_s_355, k_s_356, k_s_357, k_s_358, k_s_359, k_s_360, k_s_361, k_s_362, k_s_363, k_s_364, k_s_365, k_s_366, k_s_367, k_s_368, k_s_369, k_s_370, k_s_371, k_s_372, k_s_373, k_s_374, k_s_375, k_s_376, k_s_377, k_s_378, k_s_379, vu_n, vu_na, vu_ns, up_na]
        have hsk := l2F_skip (S := S) (ord := oFd S) (run := run) (lo := lo) (hi := hi) (e := e) (i := i) (pU S - i) (fun k q1 q2 => e2 k q1 (by omega))
        rw [show i + (pU S - i) = pU S by omega] at hsk
        refine hZ I1 ⟨pU S, sv, by omega, Nat.le_refl _, fun v hv => ?_, p4, by rw [hsk]; exact p5, by rw [hsk]; exact p6, p7⟩
        rw [p3 v hv]
        constructor
        · rintro ⟨z1, j, z2, z3, z4⟩
          have := e2 j z2 z3
          rw [z4, z1] at this; cases this
        · rintro ⟨z1, j, z2, z3, z4⟩
          omega
      · have hpo := hor j j2
        have hsk := l2F_skip (S := S) (ord := oFd S) (run := run) (lo := lo) (hi := hi) (e := e) (i := i) (j - i) (fun k q1 q2 => e3 k q1 (by omega))
        rw [show i + (j - i) = j by omega] at hsk
        have hst : l2F S (oFd S) run lo hi e (j + 1) = l2S S (oFd S j) (run (oFd S j)) (hi (oFd S j) - lo (oFd S j)) (l2F S (oFd S) run lo hi e j) := rfl
        rw [hsk, e2] at hst
        unfold l2S at hst
        rw [if_pos rfl] at hst
        have hie := IE_l2 hV (ord := oFd S) hor hlh hI i p2
        have cl : I1 363 (6 * h + oFd S j) = lo (oFd S j) := by rw [p7 _ _ (by omega) (by omega) (by omega) (by omega) (by omega)]; exact hlo _ hpo
        have ch : I1 364 (6 * h + oFd S j) = hi (oFd S j) := by rw [p7 _ _ (by omega) (by omega) (by omega) (by omega) (by omega)]; exact hhi _ hpo
        have co := p6 _ hpo
        simp (disch := omega) only [s_ic, s_li, s_la, s_si, s_sa, s_inc, s_bin, s_un, s_dup, s_dup2, s_pop, s_if, s_if2, s_gi, s_gr, s_pi, s_pz, s_al, s_aa, s_as, s_az, s_ac, s_mx, s_mn, s_cpy, s_kp, s_ri, s_rz, s_rv, s_cv, s_cs, s_rem, s_div, az_gl, az_sl, az_kp, az_pop, az_fun, az_funX, az_pat, az_in, List.map, List.replicate, List.length, List.cons_append, List.nil_append, Option.toList, f_add, f_sub, f_mul, f_neg, c_eq, c_ne, c_lt, c_ge, c_gt, c_le, d_eq, d_ne, d_lt, d_ge, d_gt, d_le, vinT, nIclamp, nIadd, nImul, nIeq, nIle, nIlt, nIlt0, nIge0, nIgt0, nIle0, nIeq0, ltT, ltF, leT, leF, eqT, eqF, upS, upN, k_n, az_setI, az_setA, true_and, and_true, and_self, true_implies, false_implies, implies_true, not_true_eq_false, not_false_eq_true, Nat.add_zero, Nat.zero_add, Nat.reduceAdd, Nat.reduceSub, Nat.reduceMul, Nat.reduceLT, Nat.reduceLeDiff, Nat.reduceEqDiff, Nat.reducePow, reduceIte, ne_eq, false_and, and_false, exists_eq_left', or_true, true_or, or_false, false_or, nI1one, nI0one, bI0, bI1, bIor, bI_z, bI_1, Bool.not_eq_true, Bool.not_eq_false, Bool.true_eq_false, Bool.false_eq_true, BX12_dispatch_199, hS1.2.2.1, e1, oI_s, cl, ch, co, k_s_354, k_f_354_0, k_f_354_1, k_f_354_3, k_f_354_6, k_f_354_8, k_f_354_9, k_f_354_10, k_f_354_11, k_f_354_12, k_f_354_13, k_f_354_14, k_f_354_15, k_f_354_16, k_f_354_17, k_f_354_18, k_f_354_19, k_f_354_20, k_f_354_21, k_f_354_22, k_f_354_24, k_f_354_25, k_f_354_30, k_f_354_31, k_s_355, k_s_356, k_s_357, k_s_358, k_s_359, k_s_360, k_s_361, k_s_362, k_s_363, k_s_364, k_s_365, k_s_366, k_s_367, k_s_368, k_s_369, k_s_370, k_s_371, k_s_372, k_s_373, k_s_374, k_s_375, k_s_376, k_s_377, k_s_378, k_s_379, vu_n, vu_na, vu_ns, up_na]
        refine m_del hV hS1 hh hpo hpo hU p5 hie (hlh _ hpo e2) (fun I2 k1 k2 => ?_)
        simp (disch := omega) only [s_ic, s_li, s_la, s_si, s_sa, s_inc, s_bin, s_un, s_dup, s_dup2, s_pop, s_if, s_if2, s_gi, s_gr, s_pi, s_pz, s_al, s_aa, s_as, s_az, s_ac, s_mx, s_mn, s_cpy, s_kp, s_ri, s_rz, s_rv, s_cv, s_cs, s_rem, s_div, az_gl, az_sl, az_kp, az_pop, az_fun, az_funX, az_pat, az_in, List.map, List.replicate, List.length, List.cons_append, List.nil_append, Option.toList, f_add, f_sub, f_mul, f_neg, c_eq, c_ne, c_lt, c_ge, c_gt, c_le, d_eq, d_ne, d_lt, d_ge, d_gt, d_le, vinT, nIclamp, nIadd, nImul, nIeq, nIle, nIlt, nIlt0, nIge0, nIgt0, nIle0, nIeq0, ltT, ltF, leT, leF, eqT, eqF, upS, upN, k_n, az_setI, az_setA, true_and, and_true, and_self, true_implies, false_implies, implies_true, not_true_eq_false, not_false_eq_true, Nat.add_zero, Nat.zero_add, Nat.reduceAdd, Nat.reduceSub, Nat.reduceMul, Nat.reduceLT, Nat.reduceLeDiff, Nat.reduceEqDiff, Nat.reducePow, reduceIte, ne_eq, false_and, and_false, exists_eq_left', or_true, true_or, or_false, false_or, nI1one, nI0one, bI0, bI1, bIor, bI_z, bI_1, Bool.not_eq_true, Bool.not_eq_false, Bool.true_eq_false, Bool.false_eq_true, LX12_dispatch_312, k_s_354, k_f_354_0, k_f_354_1, k_f_354_3, k_f_354_6, k_f_354_8, k_f_354_9, k_f_354_10, k_f_354_11, k_f_354_12, k_f_354_13, k_f_354_14, k_f_354_15, k_f_354_16, k_f_354_17, k_f_354_18, k_f_354_19, k_f_354_20, k_f_354_21, k_f_354_22, k_f_354_24, k_f_354_25, k_f_354_30, k_f_354_31, k_s_355, k_s_356, k_s_357, k_s_358, k_s_359, k_s_360, k_s_361, k_s_362, k_s_363, k_s_364, k_s_365, k_s_366, k_s_367, k_s_368, k_s_369, k_s_370, k_s_371, k_s_372, k_s_373, k_s_374, k_s_375, k_s_376, k_s_377, k_s_378, k_s_379, vu_n, vu_na, vu_ns, up_na]
        refine hZ _ ⟨j + 1, fun v => if v = oFd S j then true else sv v, by omega, by omega, e4, fun u hu => ?_, ?_, fun u hu => ?_, fun q jj z1 z2 z3 z4 z5 => ?_⟩
        · show _ = bI (if u = oFd S j then true else sv u)
          by_cases eu : u = oFd S j
          · rw [if_pos eu, eu, upS ⟨rfl, rfl⟩]; rfl
          · rw [if_neg eu, upN (by omega), upN (by omega), k2 _ _ (by omega) (by omega) (by omega)]; exact p4 u hu
        · rw [hst]
          refine ⟨fun c hc => ?_, fun c hc => ?_, fun u c hu hc => ?_⟩
          · rw [upN (by omega), upN (by omega)]; exact k1.1 c hc
          · rw [upN (by omega), upN (by omega)]; exact k1.2.1 c hc
          · rw [upN (by omega), upN (by omega)]; exact k1.2.2 u c hu hc
        · rw [hst]
          show _ = va_up (l2F S (oFd S) run lo hi e i).2 (oFd S j) _ u
          unfold va_up
          by_cases eu : u = oFd S j
          · rw [if_pos eu, eu, upN (by omega), upS ⟨rfl, rfl⟩]
          · rw [if_neg eu, upN (by omega), upN (by omega), k2 _ _ (by omega) (by omega) (by omega)]; exact p6 u hu
        · rw [upN (by omega), upN (by omega), k2 _ _ z1 z5 z4]; exact p7 q jj z1 z2 z3 z4 z5
  · intro I1 ⟨i, sv, p1, p2, p3, p4, p5, p6, p7⟩ Z
    have hS1 : CM S (I1 355) := by rw [show I1 355 = I 355 from funext (fun j => p7 _ _ (by omega) (by omega) (by omega) (by omega) (by omega))]; exact hS
    simp (disch := omega) only [s_ic, s_li, s_la, s_si, s_sa, s_inc, s_bin, s_un, s_dup, s_dup2, s_pop, s_if, s_if2, s_gi, s_gr, s_pi, s_pz, s_al, s_aa, s_as, s_az, s_ac, s_mx, s_mn, s_cpy, s_kp, s_ri, s_rz, s_rv, s_cv, s_cs, s_rem, s_div, az_gl, az_sl, az_kp, az_pop, az_fun, az_funX, az_pat, az_in, List.map, List.replicate, List.length, List.cons_append, List.nil_append, Option.toList, f_add, f_sub, f_mul, f_neg, c_eq, c_ne, c_lt, c_ge, c_gt, c_le, d_eq, d_ne, d_lt, d_ge, d_gt, d_le, vinT, nIclamp, nIadd, nImul, nIeq, nIle, nIlt, nIlt0, nIge0, nIgt0, nIle0, nIeq0, ltT, ltF, leT, leF, eqT, eqF, upS, upN, k_n, az_setI, az_setA, true_and, and_true, and_self, true_implies, false_implies, implies_true, not_true_eq_false, not_false_eq_true, Nat.add_zero, Nat.zero_add, Nat.reduceAdd, Nat.reduceSub, Nat.reduceMul, Nat.reduceLT, Nat.reduceLeDiff, Nat.reduceEqDiff, Nat.reducePow, reduceIte, ne_eq, false_and, and_false, exists_eq_left', or_true, true_or, or_false, false_or, nI1one, nI0one, bI0, bI1, bIor, bI_z, bI_1, Bool.not_eq_true, Bool.not_eq_false, Bool.true_eq_false, Bool.false_eq_true, BX12_dispatch_184, hS1.2.2.1, k_s_354, k_f_354_0, k_f_354_1, k_f_354_3, k_f_354_6, k_f_354_8, k_f_354_9, k_f_354_10, k_f_354_11, k_f_354_12, k_f_354_13, k_f_354_14, k_f_354_15, k_f_354_16, k_f_354_17, k_f_354_18, k_f_354_19, k_f_354_20, k_f_354_21, k_f_354_22, k_f_354_24, k_f_354_25, k_f_354_30, k_f_354_31, k_s_355, k_s_356, k_s_357, k_s_358, k_s_359, k_s_360, k_s_361, k_s_362, k_s_363, k_s_364, k_s_365, k_s_366, k_s_367, k_s_368, k_s_369, k_s_370, k_s_371, k_s_372, k_s_373, k_s_374, k_s_375, k_s_376, k_s_377, k_s_378, k_s_379, vu_n, vu_na, vu_ns, up_na]
    have ei : i = pU S := by omega
    rw [ei] at p5 p6
    exact hQ I1 p5 p6 p7
