set_option maxRecDepth 100000
set_option maxHeartbeats 4000000
/-! quotients of whole numbers are numbers -/
theorem n64_of {a : UInt64} (h : a.toNat % 2 ^ 63 ≤ 9218868437227405312) : vf_n64 a := by
  unfold vf_n64
  rw [UInt64.le_iff_toNat_le, UInt64.toNat_and]
  show a.toNat &&& (2 ^ 63 - 1) ≤ 9218868437227405312
  rw [Nat.and_two_pow_sub_one_eq_mod]; exact h
theorem n32_of {a : UInt32} (h : a.toNat % 2 ^ 31 ≤ 2139095040) : vf_n32 a := by
  unfold vf_n32
  rw [UInt32.le_iff_toNat_le, UInt32.toNat_and]
  show a.toNat &&& (2 ^ 31 - 1) ≤ 2139095040
  rw [Nat.and_two_pow_sub_one_eq_mod]; exact h
theorem n64_div {x y : Int32} (h : y ≠ 0) : vf_n64 (FP.ddiv (FP.i2d x) (FP.i2d y)) := by
  have hb := FP.Core.i2d_big (FP.Core.int32_ne h)
  have := FP.Core.ddiv_mag (K := 1056) (L := 1023) (FP.Core.i2d_mag x) hb.1 hb.2 (by decide) (by decide)
  refine n64_of ?_
  have e : (FP.ddiv (FP.i2d x) (FP.i2d y)) = FP.Core.ddiv (FP.Core.i2d x) (FP.Core.i2d y) := rfl
  rw [e]; omega
theorem n32_div {x y : Int32} (h : y ≠ 0) : vf_n32 (FP.fdiv (FP.i2f x) (FP.i2f y)) := by
  have hb := FP.Core.i2f_big (FP.Core.int32_ne h)
  have := FP.Core.fdiv_mag (K := 160) (L := 127) (FP.Core.i2f_mag x) hb.1 hb.2 (by decide) (by decide)
  refine n32_of ?_
  have e : (FP.fdiv (FP.i2f x) (FP.i2f y)) = FP.Core.fdiv (FP.Core.i2f x) (FP.Core.i2f y) := rfl
  rw [e]; omega
/-! what the buses get is the output less what is spilled -/
theorem sI_up {f : Nat → Int32} {b : Nat} {y : Int32} : ∀ n, sI (va_up f b y) n = sI f n + (if b < n then y - f b else 0)
  | 0 => by rw [if_neg (Nat.not_lt_zero _)]; show (0 : Int32) = 0 + 0; decide
  | n + 1 => by
    have ih := sI_up (f := f) (b := b) (y := y) n
    show sI (va_up f b y) n + va_up f b y n = sI f n + f n + _
    rw [ih]
    by_cases e : n = b
    · rw [if_neg (by omega), if_pos (by omega), e, show va_up f b y b = y from if_pos rfl]; grind
    · rw [show va_up f b y n = f n from if_neg e]
      by_cases e2 : b < n
      · rw [if_pos e2, if_pos (by omega)]; grind
      · rw [if_neg e2, if_neg (by omega)]; grind
theorem dGive_sum {S : PS} {a b : Nat} {d : DT} (hb : b < pB S) : sI (dGive S a b d).2.2.2 (pB S) + (dGive S a b d).1 = sI d.2.2.2 (pB S) + d.1 := by
  unfold dGive
  dsimp only
  rw [sI_up, if_pos hb]; grind
theorem dIt_sum {S : PS} {a : Nat} {d : DT} (ha : a < pB S) : ∀ n, n ≤ pB S → sI (dIt S a d n).2.2.2 (pB S) + (dIt S a d n).1 = sI d.2.2.2 (pB S) + d.1
  | 0, _ => dGive_sum ha
  | n + 1, hn => by
    have ih := dIt_sum (d := d) ha n (by omega)
    show sI (dStep S a n (dIt S a d n)).2.2.2 (pB S) + (dStep S a n (dIt S a d n)).1 = _
    unfold dStep
    split
    · rw [dGive_sum (by omega)]; exact ih
    · exact ih
/-- what unit u gave in all -/
def eSum (S : PS) (e : ET) (u : Nat) : Int32 := sI (fun c => e.2.2 (4 * u + c)) (pB S)
theorem eDel_sum {S : PS} (hB : pB S ≤ 4) {u : Nat} {x : Int32} {e : ET} (hb : pBus S u < pB S) : eSum S (eDel S u x e).2 u + (eDel S u x e).1 = eSum S e u + x := by
  have h := dIt_sum (S := S) (a := pBus S u) (d := (x, e.1, e.2.1, fun c => e.2.2 (4 * u + c))) hb (pB S) (Nat.le_refl _)
  have e1 : eSum S (eDel S u x e).2 u = sI (dAll S (pBus S u) (x, e.1, e.2.1, fun c => e.2.2 (4 * u + c))).2.2.2 (pB S) := by
    refine sI_congr (fun c hc => ?_)
    show (if 4 * u ≤ 4 * u + c ∧ 4 * u + c < 4 * u + 4 then _ else _) = _
    rw [if_pos (by omega), show 4 * u + c - 4 * u = c by omega]
  rw [e1]; exact h
theorem eDel_oth {S : PS} (hB : pB S ≤ 4) {u v : Nat} {x : Int32} {e : ET} (hv : v ≠ u) : eSum S (eDel S u x e).2 v = eSum S e v := by
  refine sI_congr (fun c hc => ?_)
  show (if 4 * u ≤ 4 * v + c ∧ 4 * v + c < 4 * u + 4 then _ else _) = _
  rw [if_neg (by omega)]
theorem l1_sum {S : PS} (hV : VS S) {h : Nat} {run : Nat → Bool} {lo : Nat → Int32} : ∀ n, n ≤ pU S → ∀ u, u < pU S → (l1F S h run lo n).2 u + eSum S (l1F S h run lo n).1 u = if u < n ∧ run u = true then lo u else nI 0
  | 0, _, u, hu => by
    rw [if_neg (by omega)]
    show nI 0 + sI (fun c => nI 0) (pB S) = nI 0
    rw [sI_z _ (fun _ => nI_0)]; rw [nI_0]; rfl
  | n + 1, hn, u, hu => by
    have ih := l1_sum hV (h := h) (run := run) (lo := lo) n (by omega)
    have hB := hV.2.1.2
    have hst : l1F S h run lo (n + 1) = l1S S n (run n) (lo n) (l1F S h run lo n) := rfl
    rw [hst]
    unfold l1S
    by_cases r : run n = true
    · rw [if_pos r]
      dsimp only
      by_cases e : u = n
      · subst e
        have h1 := eDel_sum (x := lo u) (e := (l1F S h run lo u).1) hB (hV.2.2.2.2.2.1 u hu).1
        have h2 := ih u hu
        have hz := l1_sp0 (S := S) (h := h) (run := run) (lo := lo) u u (Nat.le_refl _)
        rw [if_neg (by omega), hz] at h2
        rw [if_pos ⟨by omega, r⟩, show va_up (l1F S h run lo u).2 u (eDel S u (lo u) (l1F S h run lo u).1).1 u = (eDel S u (lo u) (l1F S h run lo u).1).1 from if_pos rfl, Int32.add_comm, h1]
        rw [nI_0] at h2
        grind
      · rw [show va_up (l1F S h run lo n).2 n (eDel S n (lo n) (l1F S h run lo n).1).1 u = (l1F S h run lo n).2 u from if_neg e, eDel_oth hB e, ih u hu]
        by_cases e2 : u < n ∧ run u = true
        · rw [if_pos e2, if_pos ⟨by omega, e2.2⟩]
        · rw [if_neg e2, if_neg (fun z => e2 ⟨by omega, z.2⟩)]
    · rw [if_neg r, ih u hu]
      by_cases e2 : u < n ∧ run u = true
      · rw [if_pos e2, if_pos ⟨by omega, e2.2⟩]
      · rw [if_neg e2, if_neg (fun z => e2 ⟨by
          have : u ≠ n := fun q => r (q ▸ z.2)
          omega, z.2⟩)]
where
  l1_sp0 {S : PS} {h : Nat} {run : Nat → Bool} {lo : Nat → Int32} : ∀ n u, n ≤ u → (l1F S h run lo n).2 u = nI 0
  | 0, u, _ => rfl
  | n + 1, u, hu => by
    have ih := l1_sp0 (S := S) (h := h) (run := run) (lo := lo) n u (by omega)
    have hst : l1F S h run lo (n + 1) = l1S S n (run n) (lo n) (l1F S h run lo n) := rfl
    rw [hst]
    unfold l1S
    split
    · show va_up _ n _ u = _
      rw [show va_up (l1F S h run lo n).2 n (eDel S n (lo n) (l1F S h run lo n).1).1 u = (l1F S h run lo n).2 u from if_neg (by omega), ih]
    · exact ih
theorem l2_sum {S : PS} (hV : VS S) {ord : Nat → Nat} (hor : ∀ i, i < pU S → ord i < pU S) {run : Nat → Bool} {lo hi : Nat → Int32} {e : ET} (u : Nat) : ∀ n, n ≤ pU S → (l2F S ord run lo hi e n).2 u - eSum S (l2F S ord run lo hi e n).1 u = (if run u = true then lo u else nI 0) - eSum S e u
  | 0, _ => rfl
  | n + 1, hn => by
    have ih := l2_sum hV hor (run := run) (lo := lo) (hi := hi) (e := e) u n (by omega)
    have hB := hV.2.1.2
    have hst : l2F S ord run lo hi e (n + 1) = l2S S (ord n) (run (ord n)) (hi (ord n) - lo (ord n)) (l2F S ord run lo hi e n) := rfl
    rw [hst]
    unfold l2S
    generalize l2F S ord run lo hi e n = s at ih ⊢
    have hn2 := hor n (by omega)
    generalize ord n = v at hn2 ⊢
    split
    · dsimp only
      by_cases ev : u = v
      · subst ev
        have h1 := eDel_sum (x := hi u - lo u) (e := s.1) hB (hV.2.2.2.2.2.1 u hn2).1
        rw [show va_up s.2 u (s.2 u + (hi u - lo u - (eDel S u (hi u - lo u) s.1).1)) u = s.2 u + (hi u - lo u - (eDel S u (hi u - lo u) s.1).1) from if_pos rfl]
        grind
      · rw [show va_up s.2 v (s.2 v + (hi v - lo v - (eDel S v (hi v - lo v) s.1).1)) u = s.2 u from if_neg ev, eDel_oth hB ev]
        exact ih
    · exact ih
theorem hr_give {S : PS} (hV : VS S) {rn : Nat → Int32} {h u : Nat} (hu : u < pU S) : (hrS S (oFd S) rn h).2.2.1 u - (hrS S (oFd S) rn h).2.1 u = sI (fun c => (hrS S (oFd S) rn h).1.2.2 (4 * u + c)) (pB S) := by
  rw [hrS_eq]
  have h1 := l1_sum hV (h := h) (run := fun u => bt (rn h) u) (lo := fun u => loF S u (bt (rn h) u) (decide (0 < tmU S rn h u)) (pvS S (oFd S) rn h u)) (pU S) (Nat.le_refl _) u hu
  have hor : ∀ i, i < pU S → oFd S i < pU S := (SO_ord (N := pU S) WO_cost (pU S) (Nat.le_refl _)).1
  have h2 := l2_sum hV hor (run := fun u => bt (rn h) u) (lo := fun u => loF S u (bt (rn h) u) (decide (0 < tmU S rn h u)) (pvS S (oFd S) rn h u)) (hi := fun u => hiF S u (bt (rn h) u) (decide (0 < tmU S rn h u)) (pvS S (oFd S) rn h u)) (e := (l1F S h (fun u => bt (rn h) u) (fun u => loF S u (bt (rn h) u) (decide (0 < tmU S rn h u)) (pvS S (oFd S) rn h u)) (pU S)).1) u (pU S) (Nat.le_refl _)
  unfold eSum at h1 h2
  unfold hrF
  dsimp only at h1 h2 ⊢
  by_cases r : bt (rn h) u = true
  · rw [if_pos ⟨hu, r⟩] at h1
    rw [if_pos r] at h2
    grind
  · rw [if_neg (fun z => r z.2)] at h1
    rw [if_neg r] at h2
    grind
/-! the mean cost -/
def mtS (S : PS) : Int32 := sI (fun h => sI (fun u => sI (fun c => gvT S h u c) (pB S)) (pU S)) (pH S)
theorem mt_eq {S : PS} (hV : VS S) : sI (suK S 4) (pH S) - sI (suK S 5) (pH S) = mtS S := by
  have hH := hV.1.2
  rw [sI_sub]
  refine sI_congr (fun h hh => ?_)
  have e4 : suK S 4 h = sI (fun u => (hrS S (oFd S) (fdM S) h).2.2.1 u) (pU S) := by
    unfold suK
    rw [hr_sum (k := 4)]
    refine sI_congr (fun u hu => ?_)
    by_cases r : bt (fdM S h) u = true
    · rw [if_pos r]; rfl
    · rw [if_neg r]; exact (hr_z hV (by omega) hu (by simpa using r)).1.symm
  have e5 : suK S 5 h = sI (fun u => (hrS S (oFd S) (fdM S) h).2.1 u) (pU S) := by
    unfold suK
    rw [hr_sum (k := 5)]
    refine sI_congr (fun u hu => ?_)
    by_cases r : bt (fdM S h) u = true
    · rw [if_pos r]; rfl
    · rw [if_neg r]; exact (hr_z hV (by omega) hu (by simpa using r)).2.2.1.symm
  rw [e4, e5, sI_sub]
  exact sI_congr (fun u hu => hr_give hV hu)
def mnV (S : PS) : UInt64 := FP.ddiv (FP.i2d (sI (suK S 0) (pH S))) (FP.i2d (mtS S))
def hrN (S : PS) (u : Nat) : Nat := fb_ct (fun h => bt (fdM S h) u) (pH S)
def ldN (S : PS) (u : Nat) : Int32 := pT S u 10 * nI (hrN S u)
def ldV (S : PS) (u : Nat) : UInt32 := FP.fdiv (FP.i2f (sI (fun h => (hrO S h).2.2.1 u) (pH S))) (FP.i2f (ldN S u))
abbrev eAE : String := "java/lang/ArithmeticException"
theorem w_meanCost {I : Nat → Nat → Int32} {R : RT} {A : AT} {Q : Option Value → az_M → Prop} {Xs : String → az_M → Prop} (hC : CR A I)
    (hX : mtS A.1 = 0 → ∀ I', CR A I' → (∀ q j, 353 < q → I' q j = I q j) → Xs eAE (K0, I', R))
    (hQ : mtS A.1 ≠ 0 → ∀ I', CR A I' → (∀ q j, 353 < q → I' q j = I q j) → Q (some (.double (mnV A.1))) (K0, I', R)) : FX11_meanCost [.ref 0] (K0, I, R) Q Xs := by
  have hC0 := hC
  obtain ⟨hV, hS, hH, hsv, hT, st, hst, hout⟩ := hC
  have hU := hV.2.2.2.1
  have hO := hV.2.2.2.2.1
  simp (disch := omega) only [s_ic, s_li, s_la, s_si, s_sa, s_inc, s_bin, s_un, s_dup, s_dup2, s_pop, s_if, s_if2, s_gi, s_gr, s_pi, s_pz, s_al, s_aa, s_as, s_az, s_ac, s_mx, s_mn, s_cpy, s_kp, s_ri, s_rz, s_rv, s_cv, s_cs, s_rem, s_div, az_gl, az_sl, az_kp, az_pop, az_fun, az_funX, az_pat, az_in, List.map, List.replicate, List.length, List.cons_append, List.nil_append, Option.toList, f_add, f_sub, f_mul, f_neg, c_eq, c_ne, c_lt, c_ge, c_gt, c_le, d_eq, d_ne, d_lt, d_ge, d_gt, d_le, vinT, nIclamp, nIadd, nImul, nIeq, nIle, nIlt, nIlt0, nIge0, nIgt0, nIle0, nIeq0, ltT, ltF, leT, leF, eqT, eqF, upS, upN, k_n, az_setI, az_setA, true_and, and_true, and_self, true_implies, false_implies, implies_true, not_true_eq_false, not_false_eq_true, Nat.add_zero, Nat.zero_add, Nat.reduceAdd, Nat.reduceSub, Nat.reduceMul, Nat.reduceLT, Nat.reduceLeDiff, Nat.reduceEqDiff, Nat.reducePow, reduceIte, ne_eq, false_and, and_false, exists_eq_left', or_true, true_or, or_false, false_or, nI1one, nI0one, bI0, bI1, bIor, bI_z, bI_1, Bool.not_eq_true, Bool.not_eq_false, Bool.true_eq_false, Bool.false_eq_true, FX11_meanCost, PX11_meanCost, s_thr, k_s_0, k_f_0_0, k_f_0_1, k_f_0_2, k_f_0_3, k_f_0_4, k_f_0_5, k_f_0_6, k_f_0_7, k_s_47, k_f_47_0, k_s_48, k_r_48, k_s_233, k_f_233_0, k_f_233_1, k_f_233_2, k_f_233_3, k_f_233_4, k_f_233_5, k_f_233_6, k_f_233_7, k_f_233_8, k_f_233_9, k_s_234, k_f_234_0, k_f_234_1, k_f_234_2, k_s_235, k_s_236, k_s_237, k_s_238, k_f_238_0, k_f_238_1, k_f_238_2, k_s_239, k_s_240, k_r_240, k_t_240, k_s_247, k_r_247, k_t_247, k_s_254, k_f_254_0, k_f_254_1, k_f_254_2, k_s_255, k_r_255, k_t_255, k_s_260, k_r_260, k_t_260, k_s_265, k_r_265, k_t_265, k_s_290, k_r_290, k_t_290, k_s_297, k_r_297, k_t_297, k_s_304, k_r_304, k_t_304, k_s_311, k_r_311, k_t_311, k_s_318, k_r_318, k_t_318, k_s_325, k_r_325, k_t_325, k_s_339, k_s_340, k_f_340_0, k_f_340_1, k_f_340_2, k_f_340_3, k_s_341, k_s_342, k_s_343, k_s_344, k_s_345, k_f_345_0, k_f_345_1, k_s_346, k_s_347, k_s_348, k_f_348_0, k_f_348_1, k_f_348_2, k_s_349, k_s_350, k_s_351, k_s_352, k_f_352_0, k_s_353, k_s_1, k_s_2, k_s_9, k_s_16, k_s_21, k_s_22, k_s_23, k_f_1_5, k_f_1_6, k_f_1_7, k_f_1_8, k_f_1_9, k_f_1_10, k_r_2, k_t_2, k_r_9, k_t_9, k_r_16, k_t_16]
  refine w_refresh hV hS hst hout (fun I1 b1 b2 b3 => ?_)
  have hS1 := CS_frame (I' := I1) hU hO hS (fun q j _ _ => b3 _ _ (by omega) (by omega))
  have hC1 := CR_ref hC0 b1 b2 b3
  have fr : ∀ q j, 353 < q → I1 q j = I q j := fun q j z => b3 _ _ (by omega) (by omega)
  simp (disch := omega) only [s_ic, s_li, s_la, s_si, s_sa, s_inc, s_bin, s_un, s_dup, s_dup2, s_pop, s_if, s_if2, s_gi, s_gr, s_pi, s_pz, s_al, s_aa, s_as, s_az, s_ac, s_mx, s_mn, s_cpy, s_kp, s_ri, s_rz, s_rv, s_cv, s_cs, s_rem, s_div, az_gl, az_sl, az_kp, az_pop, az_fun, az_funX, az_pat, az_in, List.map, List.replicate, List.length, List.cons_append, List.nil_append, Option.toList, f_add, f_sub, f_mul, f_neg, c_eq, c_ne, c_lt, c_ge, c_gt, c_le, d_eq, d_ne, d_lt, d_ge, d_gt, d_le, vinT, nIclamp, nIadd, nImul, nIeq, nIle, nIlt, nIlt0, nIge0, nIgt0, nIle0, nIeq0, ltT, ltF, leT, leF, eqT, eqF, upS, upN, k_n, az_setI, az_setA, true_and, and_true, and_self, true_implies, false_implies, implies_true, not_true_eq_false, not_false_eq_true, Nat.add_zero, Nat.zero_add, Nat.reduceAdd, Nat.reduceSub, Nat.reduceMul, Nat.reduceLT, Nat.reduceLeDiff, Nat.reduceEqDiff, Nat.reducePow, reduceIte, ne_eq, false_and, and_false, exists_eq_left', or_true, true_or, or_false, false_or, nI1one, nI0one, bI0, bI1, bIor, bI_z, bI_1, Bool.not_eq_true, Bool.not_eq_false, Bool.true_eq_false, Bool.false_eq_true, k_s_0, k_f_0_0, k_f_0_1, k_f_0_2, k_f_0_3, k_f_0_4, k_f_0_5, k_f_0_6, k_f_0_7, k_s_47, k_f_47_0, k_s_48, k_r_48, k_s_233, k_f_233_0, k_f_233_1, k_f_233_2, k_f_233_3, k_f_233_4, k_f_233_5, k_f_233_6, k_f_233_7, k_f_233_8, k_f_233_9, k_s_234, k_f_234_0, k_f_234_1, k_f_234_2, k_s_235, k_s_236, k_s_237, k_s_238, k_f_238_0, k_f_238_1, k_f_238_2, k_s_239, k_s_240, k_r_240, k_t_240, k_s_247, k_r_247, k_t_247, k_s_254, k_f_254_0, k_f_254_1, k_f_254_2, k_s_255, k_r_255, k_t_255, k_s_260, k_r_260, k_t_260, k_s_265, k_r_265, k_t_265, k_s_290, k_r_290, k_t_290, k_s_297, k_r_297, k_t_297, k_s_304, k_r_304, k_t_304, k_s_311, k_r_311, k_t_311, k_s_318, k_r_318, k_t_318, k_s_325, k_r_325, k_t_325, k_s_339, k_s_340, k_f_340_0, k_f_340_1, k_f_340_2, k_f_340_3, k_s_341, k_s_342, k_s_343, k_s_344, k_s_345, k_f_345_0, k_f_345_1, k_s_346, k_s_347, k_s_348, k_f_348_0, k_f_348_1, k_f_348_2, k_s_349, k_s_350, k_s_351, k_s_352, k_f_352_0, k_s_353, k_s_1, k_s_2, k_s_9, k_s_16, k_s_21, k_s_22, k_s_23, k_f_1_5, k_f_1_6, k_f_1_7, k_f_1_8, k_f_1_9, k_f_1_10, k_r_2, k_t_2, k_r_9, k_t_9, k_r_16, k_t_16]
  refine w_sumOf hV hS1 b1 (by omega) ?_
  simp (disch := omega) only [s_ic, s_li, s_la, s_si, s_sa, s_inc, s_bin, s_un, s_dup, s_dup2, s_pop, s_if, s_if2, s_gi, s_gr, s_pi, s_pz, s_al, s_aa, s_as, s_az, s_ac, s_mx, s_mn, s_cpy, s_kp, s_ri, s_rz, s_rv, s_cv, s_cs, s_rem, s_div, az_gl, az_sl, az_kp, az_pop, az_fun, az_funX, az_pat, az_in, List.map, List.replicate, List.length, List.cons_append, List.nil_append, Option.toList, f_add, f_sub, f_mul, f_neg, c_eq, c_ne, c_lt, c_ge, c_gt, c_le, d_eq, d_ne, d_lt, d_ge, d_gt, d_le, vinT, nIclamp, nIadd, nImul, nIeq, nIle, nIlt, nIlt0, nIge0, nIgt0, nIle0, nIeq0, ltT, ltF, leT, leF, eqT, eqF, upS, upN, k_n, az_setI, az_setA, true_and, and_true, and_self, true_implies, false_implies, implies_true, not_true_eq_false, not_false_eq_true, Nat.add_zero, Nat.zero_add, Nat.reduceAdd, Nat.reduceSub, Nat.reduceMul, Nat.reduceLT, Nat.reduceLeDiff, Nat.reduceEqDiff, Nat.reducePow, reduceIte, ne_eq, false_and, and_false, exists_eq_left', or_true, true_or, or_false, false_or, nI1one, nI0one, bI0, bI1, bIor, bI_z, bI_1, Bool.not_eq_true, Bool.not_eq_false, Bool.true_eq_false, Bool.false_eq_true, k_s_0, k_f_0_0, k_f_0_1, k_f_0_2, k_f_0_3, k_f_0_4, k_f_0_5, k_f_0_6, k_f_0_7, k_s_47, k_f_47_0, k_s_48, k_r_48, k_s_233, k_f_233_0, k_f_233_1, k_f_233_2, k_f_233_3, k_f_233_4, k_f_233_5, k_f_233_6, k_f_233_7, k_f_233_8, k_f_233_9, k_s_234, k_f_234_0, k_f_234_1, k_f_234_2, k_s_235, k_s_236, k_s_237, k_s_238, k_f_238_0, k_f_238_1, k_f_238_2, k_s_239, k_s_240, k_r_240, k_t_240, k_s_247, k_r_247, k_t_247, k_s_254, k_f_254_0, k_f_254_1, k_f_254_2, k_s_255, k_r_255, k_t_255, k_s_260, k_r_260, k_t_260, k_s_265, k_r_265, k_t_265, k_s_290, k_r_290, k_t_290, k_s_297, k_r_297, k_t_297, k_s_304, k_r_304, k_t_304, k_s_311, k_r_311, k_t_311, k_s_318, k_r_318, k_t_318, k_s_325, k_r_325, k_t_325, k_s_339, k_s_340, k_f_340_0, k_f_340_1, k_f_340_2, k_f_340_3, k_s_341, k_s_342, k_s_343, k_s_344, k_s_345, k_f_345_0, k_f_345_1, k_s_346, k_s_347, k_s_348, k_f_348_0, k_f_348_1, k_f_348_2, k_s_349, k_s_350, k_s_351, k_s_352, k_f_352_0, k_s_353, k_s_1, k_s_2, k_s_9, k_s_16, k_s_21, k_s_22, k_s_23, k_f_1_5, k_f_1_6, k_f_1_7, k_f_1_8, k_f_1_9, k_f_1_10, k_r_2, k_t_2, k_r_9, k_t_9, k_r_16, k_t_16]
  refine w_sumOf hV hS1 b1 (by omega) ?_
  simp (disch := omega) only [s_ic, s_li, s_la, s_si, s_sa, s_inc, s_bin, s_un, s_dup, s_dup2, s_pop, s_if, s_if2, s_gi, s_gr, s_pi, s_pz, s_al, s_aa, s_as, s_az, s_ac, s_mx, s_mn, s_cpy, s_kp, s_ri, s_rz, s_rv, s_cv, s_cs, s_rem, s_div, az_gl, az_sl, az_kp, az_pop, az_fun, az_funX, az_pat, az_in, List.map, List.replicate, List.length, List.cons_append, List.nil_append, Option.toList, f_add, f_sub, f_mul, f_neg, c_eq, c_ne, c_lt, c_ge, c_gt, c_le, d_eq, d_ne, d_lt, d_ge, d_gt, d_le, vinT, nIclamp, nIadd, nImul, nIeq, nIle, nIlt, nIlt0, nIge0, nIgt0, nIle0, nIeq0, ltT, ltF, leT, leF, eqT, eqF, upS, upN, k_n, az_setI, az_setA, true_and, and_true, and_self, true_implies, false_implies, implies_true, not_true_eq_false, not_false_eq_true, Nat.add_zero, Nat.zero_add, Nat.reduceAdd, Nat.reduceSub, Nat.reduceMul, Nat.reduceLT, Nat.reduceLeDiff, Nat.reduceEqDiff, Nat.reducePow, reduceIte, ne_eq, false_and, and_false, exists_eq_left', or_true, true_or, or_false, false_or, nI1one, nI0one, bI0, bI1, bIor, bI_z, bI_1, Bool.not_eq_true, Bool.not_eq_false, Bool.true_eq_false, Bool.false_eq_true, mt_eq hV, k_s_0, k_f_0_0, k_f_0_1, k_f_0_2, k_f_0_3, k_f_0_4, k_f_0_5, k_f_0_6, k_f_0_7, k_s_47, k_f_47_0, k_s_48, k_r_48, k_s_233, k_f_233_0, k_f_233_1, k_f_233_2, k_f_233_3, k_f_233_4, k_f_233_5, k_f_233_6, k_f_233_7, k_f_233_8, k_f_233_9, k_s_234, k_f_234_0, k_f_234_1, k_f_234_2, k_s_235, k_s_236, k_s_237, k_s_238, k_f_238_0, k_f_238_1, k_f_238_2, k_s_239, k_s_240, k_r_240, k_t_240, k_s_247, k_r_247, k_t_247, k_s_254, k_f_254_0, k_f_254_1, k_f_254_2, k_s_255, k_r_255, k_t_255, k_s_260, k_r_260, k_t_260, k_s_265, k_r_265, k_t_265, k_s_290, k_r_290, k_t_290, k_s_297, k_r_297, k_t_297, k_s_304, k_r_304, k_t_304, k_s_311, k_r_311, k_t_311, k_s_318, k_r_318, k_t_318, k_s_325, k_r_325, k_t_325, k_s_339, k_s_340, k_f_340_0, k_f_340_1, k_f_340_2, k_f_340_3, k_s_341, k_s_342, k_s_343, k_s_344, k_s_345, k_f_345_0, k_f_345_1, k_s_346, k_s_347, k_s_348, k_f_348_0, k_f_348_1, k_f_348_2, k_s_349, k_s_350, k_s_351, k_s_352, k_f_352_0, k_s_353, k_s_1, k_s_2, k_s_9, k_s_16, k_s_21, k_s_22, k_s_23, k_f_1_5, k_f_1_6, k_f_1_7, k_f_1_8, k_f_1_9, k_f_1_10, k_r_2, k_t_2, k_r_9, k_t_9, k_r_16, k_t_16]
  refine ⟨fun q => ?_, fun q => ?_⟩
  · have q2 : mtS A.1 ≠ 0 := q
    refine w_sumOf hV hS1 b1 (by omega) ?_
    simp only [s_i2d, s_ddiv, s_rd, s_li, az_gl]
    exact ⟨n64_div q2, hQ q2 I1 hC1 fr⟩
  · exact hX (by first | exact q | exact Classical.not_not.mp q) I1 hC1 fr
theorem ct_mk {p : Nat → Bool} {H : Nat} (hH : H ≤ 24) : bcJ (mkM p H) = nI (fb_ct p H) := by
  rw [bcJ_bt (fun i hi => mkM_hi hH (by omega))]
  congr 1
  rw [show 24 = H + (24 - H) by omega, fb_ct_add, ct_zero (n := 24 - H) (fun i hi => mkM_hi hH (by omega)), Nat.add_zero]
  exact fb_ct_cong (fun i hi => by rw [b_mkM (by omega) (by omega), decide_eq_true hi, Bool.true_and])
theorem w_load {I : Nat → Nat → Int32} {R : RT} {A : AT} {x : Int32} {Q : Option Value → az_M → Prop} {Xs : String → az_M → Prop} (hC : CR A I)
    (hX1 : isB (pU A.1) x = false → Xs eIX (K0, I, R))
    (hX2 : isB (pU A.1) x = true → hrN A.1 (iN x) = 0 → ∀ I', CR A I' → (∀ q j, 353 < q → I' q j = I q j) → Xs eAE (K0, I', R))
    (hQ : isB (pU A.1) x = true → hrN A.1 (iN x) ≠ 0 → ∀ I', CR A I' → (∀ q j, 353 < q → I' q j = I q j) → Q (some (.float (ldV A.1 (iN x)))) (K0, I', R)) : FX11_load [.ref 0, .int x] (K0, I, R) Q Xs := by
  have hC0 := hC
  obtain ⟨hV, hS, hH, hsv, hT, st, hst, hout⟩ := hC
  have hU := hV.2.2.2.1
  have hO := hV.2.2.2.2.1
  have hHH := hV.1.2
  simp (disch := omega) only [s_ic, s_li, s_la, s_si, s_sa, s_inc, s_bin, s_un, s_dup, s_dup2, s_pop, s_if, s_if2, s_gi, s_gr, s_pi, s_pz, s_al, s_aa, s_as, s_az, s_ac, s_mx, s_mn, s_cpy, s_kp, s_ri, s_rz, s_rv, s_cv, s_cs, s_rem, s_div, az_gl, az_sl, az_kp, az_pop, az_fun, az_funX, az_pat, az_in, List.map, List.replicate, List.length, List.cons_append, List.nil_append, Option.toList, f_add, f_sub, f_mul, f_neg, c_eq, c_ne, c_lt, c_ge, c_gt, c_le, d_eq, d_ne, d_lt, d_ge, d_gt, d_le, vinT, nIclamp, nIadd, nImul, nIeq, nIle, nIlt, nIlt0, nIge0, nIgt0, nIle0, nIeq0, ltT, ltF, leT, leF, eqT, eqF, upS, upN, k_n, az_setI, az_setA, true_and, and_true, and_self, true_implies, false_implies, implies_true, not_true_eq_false, not_false_eq_true, Nat.add_zero, Nat.zero_add, Nat.reduceAdd, Nat.reduceSub, Nat.reduceMul, Nat.reduceLT, Nat.reduceLeDiff, Nat.reduceEqDiff, Nat.reducePow, reduceIte, ne_eq, false_and, and_false, exists_eq_left', or_true, true_or, or_false, false_or, nI1one, nI0one, bI0, bI1, bIor, bI_z, bI_1, Bool.not_eq_true, Bool.not_eq_false, Bool.true_eq_false, Bool.false_eq_true, FX11_load, PX11_load, s_thr, e_isUnit hS, k_s_0, k_f_0_0, k_f_0_1, k_f_0_2, k_f_0_3, k_f_0_4, k_f_0_5, k_f_0_6, k_f_0_7, k_s_47, k_f_47_0, k_s_48, k_r_48, k_s_233, k_f_233_0, k_f_233_1, k_f_233_2, k_f_233_3, k_f_233_4, k_f_233_5, k_f_233_6, k_f_233_7, k_f_233_8, k_f_233_9, k_s_234, k_f_234_0, k_f_234_1, k_f_234_2, k_s_235, k_s_236, k_s_237, k_s_238, k_f_238_0, k_f_238_1, k_f_238_2, k_s_239, k_s_240, k_r_240, k_t_240, k_s_247, k_r_247, k_t_247, k_s_254, k_f_254_0, k_f_254_1, k_f_254_2, k_s_255, k_r_255, k_t_255, k_s_260, k_r_260, k_t_260, k_s_265, k_r_265, k_t_265, k_s_290, k_r_290, k_t_290, k_s_297, k_r_297, k_t_297, k_s_304, k_r_304, k_t_304, k_s_311, k_r_311, k_t_311, k_s_318, k_r_318, k_t_318, k_s_325, k_r_325, k_t_325, k_s_339, k_s_340, k_f_340_0, k_f_340_1, k_f_340_2, k_f_340_3, k_s_341, k_s_342, k_s_343, k_s_344, k_s_345, k_f_345_0, k_f_345_1, k_s_346, k_s_347, k_s_348, k_f_348_0, k_f_348_1, k_f_348_2, k_s_349, k_s_350, k_s_351, k_s_352, k_f_352_0, k_s_353, k_s_1, k_s_2, k_s_9, k_s_16, k_s_21, k_s_22, k_s_23, k_f_1_5, k_f_1_6, k_f_1_7, k_f_1_8, k_f_1_9, k_f_1_10, k_r_2, k_t_2, k_r_9, k_t_9, k_r_16, k_t_16]
  refine ⟨fun e => ?_, fun e => ?_⟩
  · have e1 : isB (pU A.1) x = true := by simpa using e
    obtain ⟨u, hu, rfl⟩ := isB_t (by omega) e1
    unfold iN at hX2 hQ
    rw [nI_clamp (by omega)] at hX2 hQ
    refine w_refresh hV hS hst hout (fun I1 b1 b2 b3 => ?_)
    have hS1 := CS_frame (I' := I1) hU hO hS (fun q j _ _ => b3 _ _ (by omega) (by omega))
    have hC1 := CR_ref hC0 b1 b2 b3
    have fr : ∀ q j, 353 < q → I1 q j = I q j := fun q j z => b3 _ _ (by omega) (by omega)
    have t10 := hS1.2.2.2.2.2.1 u 10 hu (by omega) (by omega)
    have v10 := (hV.2.2.2.2.2.1 u hu).2.2.2.2.2.2.2.2.2.2.2.1
    simp (disch := omega) only [s_ic, s_li, s_la, s_si, s_sa, s_inc, s_bin, s_un, s_dup, s_dup2, s_pop, s_if, s_if2, s_gi, s_gr, s_pi, s_pz, s_al, s_aa, s_as, s_az, s_ac, s_mx, s_mn, s_cpy, s_kp, s_ri, s_rz, s_rv, s_cv, s_cs, s_rem, s_div, az_gl, az_sl, az_kp, az_pop, az_fun, az_funX, az_pat, az_in, List.map, List.replicate, List.length, List.cons_append, List.nil_append, Option.toList, f_add, f_sub, f_mul, f_neg, c_eq, c_ne, c_lt, c_ge, c_gt, c_le, d_eq, d_ne, d_lt, d_ge, d_gt, d_le, vinT, nIclamp, nIadd, nImul, nIeq, nIle, nIlt, nIlt0, nIge0, nIgt0, nIle0, nIeq0, ltT, ltF, leT, leF, eqT, eqF, upS, upN, k_n, az_setI, az_setA, true_and, and_true, and_self, true_implies, false_implies, implies_true, not_true_eq_false, not_false_eq_true, Nat.add_zero, Nat.zero_add, Nat.reduceAdd, Nat.reduceSub, Nat.reduceMul, Nat.reduceLT, Nat.reduceLeDiff, Nat.reduceEqDiff, Nat.reducePow, reduceIte, ne_eq, false_and, and_false, exists_eq_left', or_true, true_or, or_false, false_or, nI1one, nI0one, bI0, bI1, bIor, bI_z, bI_1, Bool.not_eq_true, Bool.not_eq_false, Bool.true_eq_false, Bool.false_eq_true, hS1.1, k_s_0, k_f_0_0, k_f_0_1, k_f_0_2, k_f_0_3, k_f_0_4, k_f_0_5, k_f_0_6, k_f_0_7, k_s_47, k_f_47_0, k_s_48, k_r_48, k_s_233, k_f_233_0, k_f_233_1, k_f_233_2, k_f_233_3, k_f_233_4, k_f_233_5, k_f_233_6, k_f_233_7, k_f_233_8, k_f_233_9, k_s_234, k_f_234_0, k_f_234_1, k_f_234_2, k_s_235, k_s_236, k_s_237, k_s_238, k_f_238_0, k_f_238_1, k_f_238_2, k_s_239, k_s_240, k_r_240, k_t_240, k_s_247, k_r_247, k_t_247, k_s_254, k_f_254_0, k_f_254_1, k_f_254_2, k_s_255, k_r_255, k_t_255, k_s_260, k_r_260, k_t_260, k_s_265, k_r_265, k_t_265, k_s_290, k_r_290, k_t_290, k_s_297, k_r_297, k_t_297, k_s_304, k_r_304, k_t_304, k_s_311, k_r_311, k_t_311, k_s_318, k_r_318, k_t_318, k_s_325, k_r_325, k_t_325, k_s_339, k_s_340, k_f_340_0, k_f_340_1, k_f_340_2, k_f_340_3, k_s_341, k_s_342, k_s_343, k_s_344, k_s_345, k_f_345_0, k_f_345_1, k_s_346, k_s_347, k_s_348, k_f_348_0, k_f_348_1, k_f_348_2, k_s_349, k_s_350, k_s_351, k_s_352, k_f_352_0, k_s_353, k_s_1, k_s_2, k_s_9, k_s_16, k_s_21, k_s_22, k_s_23, k_f_1_5, k_f_1_6, k_f_1_7, k_f_1_8, k_f_1_9, k_f_1_10, k_r_2, k_t_2, k_r_9, k_t_9, k_r_16, k_t_16]
    refine w_hoursRun (by omega) hHH ?_
    rw [mkM_congr (p' := fun h => bt (fdM A.1 h) u) (fun h hh => by rw [(b1.2.1 h hh).1])]
    simp (disch := omega) only [s_ic, s_li, s_la, s_si, s_sa, s_inc, s_bin, s_un, s_dup, s_dup2, s_pop, s_if, s_if2, s_gi, s_gr, s_pi, s_pz, s_al, s_aa, s_as, s_az, s_ac, s_mx, s_mn, s_cpy, s_kp, s_ri, s_rz, s_rv, s_cv, s_cs, s_rem, s_div, az_gl, az_sl, az_kp, az_pop, az_fun, az_funX, az_pat, az_in, List.map, List.replicate, List.length, List.cons_append, List.nil_append, Option.toList, f_add, f_sub, f_mul, f_neg, c_eq, c_ne, c_lt, c_ge, c_gt, c_le, d_eq, d_ne, d_lt, d_ge, d_gt, d_le, vinT, nIclamp, nIadd, nImul, nIeq, nIle, nIlt, nIlt0, nIge0, nIgt0, nIle0, nIeq0, ltT, ltF, leT, leF, eqT, eqF, upS, upN, k_n, az_setI, az_setA, true_and, and_true, and_self, true_implies, false_implies, implies_true, not_true_eq_false, not_false_eq_true, Nat.add_zero, Nat.zero_add, Nat.reduceAdd, Nat.reduceSub, Nat.reduceMul, Nat.reduceLT, Nat.reduceLeDiff, Nat.reduceEqDiff, Nat.reducePow, reduceIte, ne_eq, false_and, and_false, exists_eq_left', or_true, true_or, or_false, false_or, nI1one, nI0one, bI0, bI1, bIor, bI_z, bI_1, Bool.not_eq_true, Bool.not_eq_false, Bool.true_eq_false, Bool.false_eq_true, e_bitCount, t10, ct_mk hHH, k_s_0, k_f_0_0, k_f_0_1, k_f_0_2, k_f_0_3, k_f_0_4, k_f_0_5, k_f_0_6, k_f_0_7, k_s_47, k_f_47_0, k_s_48, k_r_48, k_s_233, k_f_233_0, k_f_233_1, k_f_233_2, k_f_233_3, k_f_233_4, k_f_233_5, k_f_233_6, k_f_233_7, k_f_233_8, k_f_233_9, k_s_234, k_f_234_0, k_f_234_1, k_f_234_2, k_s_235, k_s_236, k_s_237, k_s_238, k_f_238_0, k_f_238_1, k_f_238_2, k_s_239, k_s_240, k_r_240, k_t_240, k_s_247, k_r_247, k_t_247, k_s_254, k_f_254_0, k_f_254_1, k_f_254_2, k_s_255, k_r_255, k_t_255, k_s_260, k_r_260, k_t_260, k_s_265, k_r_265, k_t_265, k_s_290, k_r_290, k_t_290, k_s_297, k_r_297, k_t_297, k_s_304, k_r_304, k_t_304, k_s_311, k_r_311, k_t_311, k_s_318, k_r_318, k_t_318, k_s_325, k_r_325, k_t_325, k_s_339, k_s_340, k_f_340_0, k_f_340_1, k_f_340_2, k_f_340_3, k_s_341, k_s_342, k_s_343, k_s_344, k_s_345, k_f_345_0, k_f_345_1, k_s_346, k_s_347, k_s_348, k_f_348_0, k_f_348_1, k_f_348_2, k_s_349, k_s_350, k_s_351, k_s_352, k_f_352_0, k_s_353, k_s_1, k_s_2, k_s_9, k_s_16, k_s_21, k_s_22, k_s_23, k_f_1_5, k_f_1_6, k_f_1_7, k_f_1_8, k_f_1_9, k_f_1_10, k_r_2, k_t_2, k_r_9, k_t_9, k_r_16, k_t_16]
    have hz : (pT A.1 u 10 * nI (fb_ct (fun h => bt (fdM A.1 h) u) (pH A.1)) = 0) ↔ hrN A.1 u = 0 := by
      have hle := fb_ct_le (fun h => bt (fdM A.1 h) u) (pH A.1)
      obtain ⟨w1, w2⟩ := v10
      show _ ↔ fb_ct (fun h => bt (fdM A.1 h) u) (pH A.1) = 0
      generalize fb_ct (fun h => bt (fdM A.1 h) u) (pH A.1) = n at hle ⊢
      have hm : (pT A.1 u 10).toInt * (n : Int) ≤ 500 * 24 := Int.mul_le_mul w2 (by omega) (by omega) (by omega)
      have hm0 : 0 ≤ (pT A.1 u 10).toInt * (n : Int) := Int.mul_nonneg (by omega) (by omega)
      have ht : (pT A.1 u 10 * nI n).toInt = (pT A.1 u 10).toInt * (n : Int) := by
        rw [tI_mul (by rw [tI_n (by omega)]; omega), tI_n (by omega)]
      constructor
      · intro z
        rw [z, tI_0] at ht
        rcases Int.mul_eq_zero.mp ht.symm with q | q <;> omega
      · intro z
        subst z
        apply Int32.toInt_inj.mp
        rw [ht, tI_0]; simp
    refine ⟨fun q => ?_, fun q => ?_⟩
    · have q1 : hrN A.1 u ≠ 0 := fun z => q (hz.mpr z)
      have q2 : ldN A.1 u ≠ 0 := q
      simp (disch := omega) only [s_ic, s_li, s_la, s_si, s_sa, s_inc, s_bin, s_un, s_dup, s_dup2, s_pop, s_if, s_if2, s_gi, s_gr, s_pi, s_pz, s_al, s_aa, s_as, s_az, s_ac, s_mx, s_mn, s_cpy, s_kp, s_ri, s_rz, s_rv, s_cv, s_cs, s_rem, s_div, az_gl, az_sl, az_kp, az_pop, az_fun, az_funX, az_pat, az_in, List.map, List.replicate, List.length, List.cons_append, List.nil_append, Option.toList, f_add, f_sub, f_mul, f_neg, c_eq, c_ne, c_lt, c_ge, c_gt, c_le, d_eq, d_ne, d_lt, d_ge, d_gt, d_le, vinT, nIclamp, nIadd, nImul, nIeq, nIle, nIlt, nIlt0, nIge0, nIgt0, nIle0, nIeq0, ltT, ltF, leT, leF, eqT, eqF, upS, upN, k_n, az_setI, az_setA, true_and, and_true, and_self, true_implies, false_implies, implies_true, not_true_eq_false, not_false_eq_true, Nat.add_zero, Nat.zero_add, Nat.reduceAdd, Nat.reduceSub, Nat.reduceMul, Nat.reduceLT, Nat.reduceLeDiff, Nat.reduceEqDiff, Nat.reducePow, reduceIte, ne_eq, false_and, and_false, exists_eq_left', or_true, true_or, or_false, false_or, nI1one, nI0one, bI0, bI1, bIor, bI_z, bI_1, Bool.not_eq_true, Bool.not_eq_false, Bool.true_eq_false, Bool.false_eq_true, LX11_load_75, k_s_0, k_f_0_0, k_f_0_1, k_f_0_2, k_f_0_3, k_f_0_4, k_f_0_5, k_f_0_6, k_f_0_7, k_s_47, k_f_47_0, k_s_48, k_r_48, k_s_233, k_f_233_0, k_f_233_1, k_f_233_2, k_f_233_3, k_f_233_4, k_f_233_5, k_f_233_6, k_f_233_7, k_f_233_8, k_f_233_9, k_s_234, k_f_234_0, k_f_234_1, k_f_234_2, k_s_235, k_s_236, k_s_237, k_s_238, k_f_238_0, k_f_238_1, k_f_238_2, k_s_239, k_s_240, k_r_240, k_t_240, k_s_247, k_r_247, k_t_247, k_s_254, k_f_254_0, k_f_254_1, k_f_254_2, k_s_255, k_r_255, k_t_255, k_s_260, k_r_260, k_t_260, k_s_265, k_r_265, k_t_265, k_s_290, k_r_290, k_t_290, k_s_297, k_r_297, k_t_297, k_s_304, k_r_304, k_t_304, k_s_311, k_r_311, k_t_311, k_s_318, k_r_318, k_t_318, k_s_325, k_r_325, k_t_325, k_s_339, k_s_340, k_f_340_0, k_f_340_1, k_f_340_2, k_f_340_3, k_s_341, k_s_342, k_s_343, k_s_344, k_s_345, k_f_345_0, k_f_345_1, k_s_346, k_s_347, k_s_348, k_f_348_0, k_f_348_1, k_f_348_2, k_s_349, k_s_350, k_s_351, k_s_352, k_f_352_0, k_s_353, k_s_1, k_s_2, k_s_9, k_s_16, k_s_21, k_s_22, k_s_23, k_f_1_5, k_f_1_6, k_f_1_7, k_f_1_8, k_f_1_9, k_f_1_10, k_r_2, k_t_2, k_r_9, k_t_9, k_r_16, k_t_16]
      refine lp_for (q := (0, 0)) (pH A.1) (fun h => [some (.ref 0), some (.int (nI u)), none, some (.int (ldN A.1 u)), some (.int (sI (fun h => (hrO A.1 h).2.2.1 u) h)), some (.int (nI h))]) (fun _ => (K0, I1, R)) ?_ ?_
      · intro h hh Z hZ
        have hnh : ¬ pH A.1 ≤ h := by omega
        have o := (b1.2.1 h hh).2.2.2.2.2.2.1 u hu
        simp (disch := omega) only [s_ic, s_li, s_la, s_si, s_sa, s_inc, s_bin, s_un, s_dup, s_dup2, s_pop, s_if, s_if2, s_gi, s_gr, s_pi, s_pz, s_al, s_aa, s_as, s_az, s_ac, s_mx, s_mn, s_cpy, s_kp, s_ri, s_rz, s_rv, s_cv, s_cs, s_rem, s_div, az_gl, az_sl, az_kp, az_pop, az_fun, az_funX, az_pat, az_in, List.map, List.replicate, List.length, List.cons_append, List.nil_append, Option.toList, f_add, f_sub, f_mul, f_neg, c_eq, c_ne, c_lt, c_ge, c_gt, c_le, d_eq, d_ne, d_lt, d_ge, d_gt, d_le, vinT, nIclamp, nIadd, nImul, nIeq, nIle, nIlt, nIlt0, nIge0, nIgt0, nIle0, nIeq0, ltT, ltF, leT, leF, eqT, eqF, upS, upN, k_n, az_setI, az_setA, true_and, and_true, and_self, true_implies, false_implies, implies_true, not_true_eq_false, not_false_eq_true, Nat.add_zero, Nat.zero_add, Nat.reduceAdd, Nat.reduceSub, Nat.reduceMul, Nat.reduceLT, Nat.reduceLeDiff, Nat.reduceEqDiff, Nat.reducePow, reduceIte, ne_eq, false_and, and_false, exists_eq_left', or_true, true_or, or_false, false_or, nI1one, nI0one, bI0, bI1, bIor, bI_z, bI_1, Bool.not_eq_true, Bool.not_eq_false, Bool.true_eq_false, Bool.false_eq_true, BX11_load_75, hS1.1, hnh, o, k_s_0, k_f_0_0, k_f_0_1, k_f_0_2, k_f_0_3, k_f_0_4, k_f_0_5, k_f_0_6, k_f_0_7, k_s_47, k_f_47_0, k_s_48, k_r_48, k_s_233, k_f_233_0, k_f_233_1, k_f_233_2, k_f_233_3, k_f_233_4, k_f_233_5, k_f_233_6, k_f_233_7, k_f_233_8, k_f_233_9, k_s_234, k_f_234_0, k_f_234_1, k_f_234_2, k_s_235, k_s_236, k_s_237, k_s_238, k_f_238_0, k_f_238_1, k_f_238_2, k_s_239, k_s_240, k_r_240, k_t_240, k_s_247, k_r_247, k_t_247, k_s_254, k_f_254_0, k_f_254_1, k_f_254_2, k_s_255, k_r_255, k_t_255, k_s_260, k_r_260, k_t_260, k_s_265, k_r_265, k_t_265, k_s_290, k_r_290, k_t_290, k_s_297, k_r_297, k_t_297, k_s_304, k_r_304, k_t_304, k_s_311, k_r_311, k_t_311, k_s_318, k_r_318, k_t_318, k_s_325, k_r_325, k_t_325, k_s_339, k_s_340, k_f_340_0, k_f_340_1, k_f_340_2, k_f_340_3, k_s_341, k_s_342, k_s_343, k_s_344, k_s_345, k_f_345_0, k_f_345_1, k_s_346, k_s_347, k_s_348, k_f_348_0, k_f_348_1, k_f_348_2, k_s_349, k_s_350, k_s_351, k_s_352, k_f_352_0, k_s_353, k_s_1, k_s_2, k_s_9, k_s_16, k_s_21, k_s_22, k_s_23, k_f_1_5, k_f_1_6, k_f_1_7, k_f_1_8, k_f_1_9, k_f_1_10, k_r_2, k_t_2, k_r_9, k_t_9, k_r_16, k_t_16]
        exact hZ
      · intro Z
        simp (disch := omega) only [s_ic, s_li, s_la, s_si, s_sa, s_inc, s_bin, s_un, s_dup, s_dup2, s_pop, s_if, s_if2, s_gi, s_gr, s_pi, s_pz, s_al, s_aa, s_as, s_az, s_ac, s_mx, s_mn, s_cpy, s_kp, s_ri, s_rz, s_rv, s_cv, s_cs, s_rem, s_div, az_gl, az_sl, az_kp, az_pop, az_fun, az_funX, az_pat, az_in, List.map, List.replicate, List.length, List.cons_append, List.nil_append, Option.toList, f_add, f_sub, f_mul, f_neg, c_eq, c_ne, c_lt, c_ge, c_gt, c_le, d_eq, d_ne, d_lt, d_ge, d_gt, d_le, vinT, nIclamp, nIadd, nImul, nIeq, nIle, nIlt, nIlt0, nIge0, nIgt0, nIle0, nIeq0, ltT, ltF, leT, leF, eqT, eqF, upS, upN, k_n, az_setI, az_setA, true_and, and_true, and_self, true_implies, false_implies, implies_true, not_true_eq_false, not_false_eq_true, Nat.add_zero, Nat.zero_add, Nat.reduceAdd, Nat.reduceSub, Nat.reduceMul, Nat.reduceLT, Nat.reduceLeDiff, Nat.reduceEqDiff, Nat.reducePow, reduceIte, ne_eq, false_and, and_false, exists_eq_left', or_true, true_or, or_false, false_or, nI1one, nI0one, bI0, bI1, bIor, bI_z, bI_1, Bool.not_eq_true, Bool.not_eq_false, Bool.true_eq_false, Bool.false_eq_true, BX11_load_75, hS1.1, k_s_0, k_f_0_0, k_f_0_1, k_f_0_2, k_f_0_3, k_f_0_4, k_f_0_5, k_f_0_6, k_f_0_7, k_s_47, k_f_47_0, k_s_48, k_r_48, k_s_233, k_f_233_0, k_f_233_1, k_f_233_2, k_f_233_3, k_f_233_4, k_f_233_5, k_f_233_6, k_f_233_7, k_f_233_8, k_f_233_9, k_s_234, k_f_234_0, k_f_234_1, k_f_234_2, k_s_235, k_s_236, k_s_237, k_s_238, k_f_238_0, k_f_238_1, k_f_238_2, k_s_239, k_s_240, k_r_240, k_t_240, k_s_247, k_r_247, k_t_247, k_s_254, k_f_254_0, k_f_254_1, k_f_254_2, k_s_255, k_r_255, k_t_255, k_s_260, k_r_260, k_t_260, k_s_265, k_r_265, k_t_265, k_s_290, k_r_290, k_t_290, k_s_297, k_r_297, k_t_297, k_s_304, k_r_304, k_t_304, k_s_311, k_r_311, k_t_311, k_s_318, k_r_318, k_t_318, k_s_325, k_r_325, k_t_325, k_s_339, k_s_340, k_f_340_0, k_f_340_1, k_f_340_2, k_f_340_3, k_s_341, k_s_342, k_s_343, k_s_344, k_s_345, k_f_345_0, k_f_345_1, k_s_346, k_s_347, k_s_348, k_f_348_0, k_f_348_1, k_f_348_2, k_s_349, k_s_350, k_s_351, k_s_352, k_f_352_0, k_s_353, k_s_1, k_s_2, k_s_9, k_s_16, k_s_21, k_s_22, k_s_23, k_f_1_5, k_f_1_6, k_f_1_7, k_f_1_8, k_f_1_9, k_f_1_10, k_r_2, k_t_2, k_r_9, k_t_9, k_r_16, k_t_16]
        simp only [s_i2f, s_fdiv, s_rf, s_li, az_gl]
        exact ⟨n32_div q2, hQ e1 q1 I1 hC1 fr⟩
    · exact hX2 e1 (hz.mp (by first | exact q | exact Classical.not_not.mp q)) I1 hC1 fr
  · exact hX1 (by simpa using e)
