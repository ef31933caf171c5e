set_option maxRecDepth 100000
abbrev ET : Type := (Nat → Int32) × (Nat → Int32) × (Nat → Int32)
abbrev HT : Type := ET × (Nat → Int32) × (Nat → Int32) × (Nat → Int32) × (Nat → Int32) × (Nat → Int32) × (Nat → Int32)
/-- a unit gives to all buses -/
def eDel (S : PS) (u : Nat) (x : Int32) (e : ET) : Int32 × ET :=
  ((dAll S (pBus S u) (x, e.1, e.2.1, fun c => e.2.2 (4 * u + c))).1, (dAll S (pBus S u) (x, e.1, e.2.1, fun c => e.2.2 (4 * u + c))).2.1, (dAll S (pBus S u) (x, e.1, e.2.1, fun c => e.2.2 (4 * u + c))).2.2.1,
    fun j => if 4 * u ≤ j ∧ j < 4 * u + 4 then (dAll S (pBus S u) (x, e.1, e.2.1, fun c => e.2.2 (4 * u + c))).2.2.2 (j - 4 * u) else e.2.2 j)
def l1S (S : PS) (u : Nat) (run : Bool) (lo : Int32) (s : ET × (Nat → Int32)) : ET × (Nat → Int32) := if run = true then ((eDel S u lo s.1).2, va_up s.2 u (eDel S u lo s.1).1) else s
def l1F (S : PS) (h : Nat) (run : Nat → Bool) (lo : Nat → Int32) : Nat → ET × (Nat → Int32)
  | 0 => ((fun c => pD S c h, fun _ => nI 0, fun _ => nI 0), fun _ => nI 0)
  | n + 1 => l1S S n (run n) (lo n) (l1F S h run lo n)
def l2S (S : PS) (u : Nat) (run : Bool) (x : Int32) (s : ET × (Nat → Int32)) : ET × (Nat → Int32) := if run = true then ((eDel S u x s.1).2, va_up s.2 u (s.2 u + (x - (eDel S u x s.1).1))) else s
def l2F (S : PS) (ord : Nat → Nat) (run : Nat → Bool) (lo hi : Nat → Int32) (e : ET) : Nat → ET × (Nat → Int32)
  | 0 => (e, fun u => if run u = true then lo u else nI 0)
  | n + 1 => l2S S (ord n) (run (ord n)) (hi (ord n) - lo (ord n)) (l2F S ord run lo hi e n)
/-- an hour from its start: m the units that run, ub whether each ran, rs its rest, pv its output before -/
def hrF (S : PS) (ord : Nat → Nat) (h : Nat) (m : Int32) (ub : Nat → Bool) (rs pv : Nat → Int32) : HT :=
  ((l2F S ord (fun u => bt m u) (fun u => loF S u (bt m u) (ub u) (pv u)) (fun u => hiF S u (bt m u) (ub u) (pv u)) (l1F S h (fun u => bt m u) (fun u => loF S u (bt m u) (ub u) (pv u)) (pU S)).1 (pU S)).1,
   (l1F S h (fun u => bt m u) (fun u => loF S u (bt m u) (ub u) (pv u)) (pU S)).2,
   (l2F S ord (fun u => bt m u) (fun u => loF S u (bt m u) (ub u) (pv u)) (fun u => hiF S u (bt m u) (ub u) (pv u)) (l1F S h (fun u => bt m u) (fun u => loF S u (bt m u) (ub u) (pv u)) (pU S)).1 (pU S)).2,
   (fun u => loF S u (bt m u) (ub u) (pv u)), (fun u => hiF S u (bt m u) (ub u) (pv u)), (fun u => scF S u (bt m u) (ub u) (rs u)),
   suF S h m (l2F S ord (fun u => bt m u) (fun u => loF S u (bt m u) (ub u) (pv u)) (fun u => hiF S u (bt m u) (ub u) (pv u)) (l1F S h (fun u => bt m u) (fun u => loF S u (bt m u) (ub u) (pv u)) (pU S)).1 (pU S)).1.1
     (fun k => suU S (fun u => bt m u) ub (l2F S ord (fun u => bt m u) (fun u => loF S u (bt m u) (ub u) (pv u)) (fun u => hiF S u (bt m u) (ub u) (pv u)) (l1F S h (fun u => bt m u) (fun u => loF S u (bt m u) (ub u) (pv u)) (pU S)).1 (pU S)).2
       (fun u => hiF S u (bt m u) (ub u) (pv u)) (l1F S h (fun u => bt m u) (fun u => loF S u (bt m u) (ub u) (pv u)) (pU S)).2 (fun u => scF S u (bt m u) (ub u) (rs u)) k (pU S)))
/-- the memory's hour h holds t -/
def HI (S : PS) (h : Nat) (t : HT) (I : Nat → Nat → Int32) : Prop :=
  (∀ c, c < pB S → I (256 + c) h = t.1.1 c) ∧ (∀ c, c < pB S → I (261 + c) h = t.1.2.1 c) ∧ (∀ u c, u < pU S → c < pB S → I (266 + h) (4 * u + c) = t.1.2.2 (4 * u + c)) ∧
  (∀ u, u < pU S → I (312 + u) h = t.2.1 u) ∧ (∀ u, u < pU S → I (291 + u) h = t.2.2.1 u) ∧ (∀ u, u < pU S → I (298 + u) h = t.2.2.2.1 u) ∧ (∀ u, u < pU S → I (305 + u) h = t.2.2.2.2.1 u) ∧ (∀ u, u < pU S → I (319 + u) h = t.2.2.2.2.2.1 u) ∧
  (∀ k, k < 13 → I (326 + k) h = t.2.2.2.2.2.2 k)
/-- the memory's grid at hour h holds e -/
def GI (S : PS) (h : Nat) (e : ET) (I : Nat → Nat → Int32) : Prop :=
  (∀ c, c < pB S → I (256 + c) h = e.1 c) ∧ (∀ c, c < pB S → I (261 + c) h = e.2.1 c) ∧ (∀ u c, u < pU S → c < pB S → I (266 + h) (4 * u + c) = e.2.2 (4 * u + c))
theorem w_del {I : Nat → Nat → Int32} {R : RT} {S : PS} {h u : Nat} {x : Int32} {e : ET} {Q : Option Value → az_M → Prop} (hV : VS S) (hS : CS 1 S I) (hh : h < 24) (hu : u < pU S) (hG : GI S h e I)
    (hQ : ∀ I', GI S h (eDel S u x e).2 I' → (∀ q j, ¬ (256 ≤ q ∧ q ≤ 264 ∧ j = h) → q ≠ 266 + h → I' q j = I q j) → Q (some (.int (eDel S u x e).1)) (K0, I', R)) : FX1_deliver [.ref 254, .ref 1, .int (nI h), .int (nI u), .int x] (K0, I, R) Q := by
  have hB := hV.2.1.2
  refine w_deliver hV hS hh hu hG.1 hG.2.1 (fun c hc => hG.2.2 u c hu hc) (fun I' k1 k2 k3 k4 => hQ I' ⟨k1, k2, fun v c hv hc => ?_⟩ (fun q j z1 z2 => k4 q j z1 (fun z => z2 z.1)))
  show I' (266 + h) (4 * v + c) = if 4 * u ≤ 4 * v + c ∧ 4 * v + c < 4 * u + 4 then _ else _
  by_cases e : v = u
  · subst e
    rw [if_pos (by omega), show 4 * v + c - 4 * v = c by omega]
    exact k3 c hc
  · rw [if_neg (by omega), k4 _ _ (by omega) (by omega)]
    exact hG.2.2 v c hv hc
theorem sI_congr {f g : Nat → Int32} : ∀ {n : Nat}, (∀ u, u < n → f u = g u) → sI f n = sI g n
  | 0, _ => rfl
  | n + 1, h => by
    show sI f n + f n = sI g n + g n
    rw [sI_congr (fun u hu => h u (by omega)), h n (by omega)]
theorem suF_congr {S : PS} {h : Nat} {m : Int32} {um um' : Nat → Int32} {r r' : Nat → Int32} {k : Nat} (e1 : ∀ c, c < pB S → um c = um' c) (e2 : ∀ k, r k = r' k) : suF S h m um r k = suF S h m um' r' k := by
  rw [show r = r' from funext e2]
  unfold suF
  rw [sI_congr e1]
theorem suU_congr {S : PS} {run run' ub ub' : Nat → Bool} {ou hi sp sc ou' hi' sp' sc' : Nat → Int32} {k n : Nat} (e : ∀ u, u < n → run u = run' u ∧ ub u = ub' u ∧ ou u = ou' u ∧ hi u = hi' u ∧ sp u = sp' u ∧ sc u = sc' u) : suU S run ub ou hi sp sc k n = suU S run' ub' ou' hi' sp' sc' k n := by
  refine sI_congr (fun u hu => ?_)
  obtain ⟨e1, e2, e3, e4, e5, e6⟩ := e u hu
  rw [e1, e2, e3, e4, e5, e6]
theorem w_d126 {I : Nat → Nat → Int32} {R : RT} {S : PS} {h : Nat} {m : Int32} {ord : Nat → Nat} {lo hi sp sc : Nat → Int32} {ub : Nat → Bool} {e : ET} {Q : Option Value → az_M → Prop} (hV : VS S) (hS : CS 1 S I) (hh : h < 24) (ho : ∀ i, i < pU S → ord i < pU S) (hoI : ∀ i, i < pU S → I 339 i = nI (ord i)) (hm : I 239 h = m) (hG : GI S h e I) (hlo : ∀ u, u < pU S → I (298 + u) h = lo u) (hhi : ∀ u, u < pU S → I (305 + u) h = hi u) (hou : ∀ u, u < pU S → I (291 + u) h = if bt m u = true then lo u else nI 0)
    (hub : ∀ u, u < pU S → decide (0 < I (241 + u) h) = ub u) (hsp : ∀ u, u < pU S → I (312 + u) h = sp u) (hsc : ∀ u, u < pU S → I (319 + u) h = sc u)
    (hQ : ∀ I', GI S h (l2F S ord (fun u => bt m u) lo hi e (pU S)).1 I' → (∀ u, u < pU S → I' (291 + u) h = (l2F S ord (fun u => bt m u) lo hi e (pU S)).2 u) →
      (∀ k, k < 13 → I' (326 + k) h = suF S h m (l2F S ord (fun u => bt m u) lo hi e (pU S)).1.1 (fun k => suU S (fun u => bt m u) ub (l2F S ord (fun u => bt m u) lo hi e (pU S)).2 hi sp sc k (pU S)) k) →
      (∀ q j, ¬ (j = h ∧ (256 ≤ q ∧ q ≤ 264 ∨ 291 ≤ q ∧ q ≤ 296 ∨ 326 ≤ q ∧ q ≤ 338)) → q ≠ 266 + h → I' q j = I q j) → Q none (K0, I', R)) : LX4_dispatch_126 Q [some (.ref 233), some (.ref 1), some (.int (nI h)), none, some (.int (nI 0)), none, none] [] (0, 0) (K0, I, R) := by
  have hU := hV.2.2.2.1
  have hO := hV.2.2.2.2.1
  have hB := hV.2.1.2
  have hS0 := hS
  obtain ⟨-, h2, -, h4, -, h6, -⟩ := hS
  simp (disch := omega) only [s_ic, s_li, s_la, s_si, s_sa, s_inc, s_bin, s_un, s_dup, s_dup2, s_pop, s_if, s_if2, s_gi, s_gr, s_pi, s_pz, s_al, s_aa, s_as, s_az, s_ac, s_mx, s_mn, s_cpy, s_kp, s_ri, s_rz, s_rv, s_cv, s_cs, s_rem, s_div, az_gl, az_sl, az_kp, az_pop, az_fun, az_funX, az_pat, az_in, List.map, List.replicate, List.length, List.cons_append, List.nil_append, Option.toList, f_add, f_sub, f_mul, f_neg, c_eq, c_ne, c_lt, c_ge, c_gt, c_le, d_eq, d_ne, d_lt, d_ge, d_gt, d_le, vinT, nIclamp, nIadd, nImul, nIeq, nIle, nIlt, nIlt0, nIge0, nIgt0, nIle0, nIeq0, ltT, ltF, leT, leF, eqT, eqF, upS, upN, k_n, az_setI, az_setA, true_and, and_true, and_self, true_implies, false_implies, implies_true, not_true_eq_false, not_false_eq_true, Nat.add_zero, Nat.zero_add, Nat.reduceAdd, Nat.reduceSub, Nat.reduceMul, Nat.reduceLT, Nat.reduceLeDiff, Nat.reduceEqDiff, Nat.reducePow, reduceIte, ne_eq, false_and, and_false, exists_eq_left', or_true, true_or, or_false, false_or, nI1one, nI0one, bI0, bI1, bIor, bI_z, bI_1, Bool.not_eq_true, Bool.not_eq_false, Bool.true_eq_false, Bool.false_eq_true, LX4_dispatch_126, k_s_0, k_f_0_0, k_f_0_1, k_f_0_2, k_f_0_3, k_f_0_4, k_f_0_5, k_f_0_6, k_f_0_7, k_s_47, k_f_47_0, k_s_48, k_r_48, k_s_233, k_f_233_0, k_f_233_1, k_f_233_2, k_f_233_3, k_f_233_4, k_f_233_5, k_f_233_6, k_f_233_7, k_f_233_8, k_f_233_9, k_s_234, k_f_234_0, k_f_234_1, k_f_234_2, k_s_235, k_s_236, k_s_237, k_s_238, k_f_238_0, k_f_238_1, k_f_238_2, k_s_239, k_s_240, k_r_240, k_t_240, k_s_247, k_r_247, k_t_247, k_s_254, k_f_254_0, k_f_254_1, k_f_254_2, k_s_255, k_r_255, k_t_255, k_s_260, k_r_260, k_t_260, k_s_265, k_r_265, k_t_265, k_s_290, k_r_290, k_t_290, k_s_297, k_r_297, k_t_297, k_s_304, k_r_304, k_t_304, k_s_311, k_r_311, k_t_311, k_s_318, k_r_318, k_t_318, k_s_325, k_r_325, k_t_325, k_s_339, k_s_340, k_f_340_0, k_f_340_1, k_f_340_2, k_f_340_3, k_s_341, k_s_342, k_s_343, k_s_344, k_s_345, k_f_345_0, k_f_345_1, k_s_346, k_s_347, k_s_348, k_f_348_0, k_f_348_1, k_f_348_2, k_s_349, k_s_350, k_s_351, k_s_352, k_f_352_0, k_s_353, k_s_1, k_s_2, k_s_9, k_s_16, k_s_21, k_s_22, k_s_23, k_f_1_5, k_f_1_6, k_f_1_7, k_f_1_8, k_f_1_9, k_f_1_10, k_r_2, k_t_2, k_r_9, k_t_9, k_r_16, k_t_16]
  refine lp_mem (q := (0, 0)) (pU S) (fun i => [some (.ref 233), some (.ref 1), some (.int (nI h)), none, some (.int (nI i)), none, none]) (fun i I1 => GI S h (l2F S ord (fun u => bt m u) lo hi e i).1 I1 ∧ (∀ u, u < pU S → I1 (291 + u) h = (l2F S ord (fun u => bt m u) lo hi e i).2 u) ∧ ∀ q j, ¬ (j = h ∧ (256 ≤ q ∧ q ≤ 264 ∨ 291 ≤ q ∧ q ≤ 296)) → q ≠ 266 + h → I1 q j = I q j) ⟨hG, hou, fun _ _ _ _ => rfl⟩ ?_ ?_
  · intro i hi1 I1 ⟨g1, g2, g3⟩ Z hZ
    have hoi := ho i hi1
    have c4 : I1 1 3 = nI (pU S) := by rw [g3 _ _ (by omega) (by omega)]; exact h4
    have c39 : I1 239 h = m := by rw [g3 _ _ (by omega) (by omega)]; exact hm
    have cor : I1 339 i = nI (ord i) := by rw [g3 _ _ (by omega) (by omega)]; exact hoI i hi1
    have clo : I1 (298 + ord i) h = lo (ord i) := by rw [g3 _ _ (by omega) (by omega)]; exact hlo _ hoi
    have chi : I1 (305 + ord i) h = hi (ord i) := by rw [g3 _ _ (by omega) (by omega)]; exact hhi _ hoi
    have cou : I1 (291 + ord i) h = (l2F S ord (fun u => bt m u) lo hi e i).2 (ord i) := g2 _ hoi
    have hst : l2F S ord (fun u => bt m u) lo hi e (i + 1) = l2S S (ord i) (bt m (ord i)) (hi (ord i) - lo (ord i)) (l2F S ord (fun u => bt m u) lo hi e i) := rfl
    rw [hst] at hZ
    generalize l2F S ord (fun u => bt m u) lo hi e i = s at hZ g1 g2 cou
    simp (disch := omega) only [s_ic, s_li, s_la, s_si, s_sa, s_inc, s_bin, s_un, s_dup, s_dup2, s_pop, s_if, s_if2, s_gi, s_gr, s_pi, s_pz, s_al, s_aa, s_as, s_az, s_ac, s_mx, s_mn, s_cpy, s_kp, s_ri, s_rz, s_rv, s_cv, s_cs, s_rem, s_div, az_gl, az_sl, az_kp, az_pop, az_fun, az_funX, az_pat, az_in, List.map, List.replicate, List.length, List.cons_append, List.nil_append, Option.toList, f_add, f_sub, f_mul, f_neg, c_eq, c_ne, c_lt, c_ge, c_gt, c_le, d_eq, d_ne, d_lt, d_ge, d_gt, d_le, vinT, nIclamp, nIadd, nImul, nIeq, nIle, nIlt, nIlt0, nIge0, nIgt0, nIle0, nIeq0, ltT, ltF, leT, leF, eqT, eqF, upS, upN, k_n, az_setI, az_setA, true_and, and_true, and_self, true_implies, false_implies, implies_true, not_true_eq_false, not_false_eq_true, Nat.add_zero, Nat.zero_add, Nat.reduceAdd, Nat.reduceSub, Nat.reduceMul, Nat.reduceLT, Nat.reduceLeDiff, Nat.reduceEqDiff, Nat.reducePow, reduceIte, ne_eq, false_and, and_false, exists_eq_left', or_true, true_or, or_false, false_or, nI1one, nI0one, bI0, bI1, bIor, bI_z, bI_1, Bool.not_eq_true, Bool.not_eq_false, Bool.true_eq_false, Bool.false_eq_true, BX4_dispatch_126, LX4_dispatch_206, c4, cor, e_runs, c39, clo, chi, cou, k_s_0, k_f_0_0, k_f_0_1, k_f_0_2, k_f_0_3, k_f_0_4, k_f_0_5, k_f_0_6, k_f_0_7, k_s_47, k_f_47_0, k_s_48, k_r_48, k_s_233, k_f_233_0, k_f_233_1, k_f_233_2, k_f_233_3, k_f_233_4, k_f_233_5, k_f_233_6, k_f_233_7, k_f_233_8, k_f_233_9, k_s_234, k_f_234_0, k_f_234_1, k_f_234_2, k_s_235, k_s_236, k_s_237, k_s_238, k_f_238_0, k_f_238_1, k_f_238_2, k_s_239, k_s_240, k_r_240, k_t_240, k_s_247, k_r_247, k_t_247, k_s_254, k_f_254_0, k_f_254_1, k_f_254_2, k_s_255, k_r_255, k_t_255, k_s_260, k_r_260, k_t_260, k_s_265, k_r_265, k_t_265, k_s_290, k_r_290, k_t_290, k_s_297, k_r_297, k_t_297, k_s_304, k_r_304, k_t_304, k_s_311, k_r_311, k_t_311, k_s_318, k_r_318, k_t_318, k_s_325, k_r_325, k_t_325, k_s_339, k_s_340, k_f_340_0, k_f_340_1, k_f_340_2, k_f_340_3, k_s_341, k_s_342, k_s_343, k_s_344, k_s_345, k_f_345_0, k_f_345_1, k_s_346, k_s_347, k_s_348, k_f_348_0, k_f_348_1, k_f_348_2, k_s_349, k_s_350, k_s_351, k_s_352, k_f_352_0, k_s_353, k_s_1, k_s_2, k_s_9, k_s_16, k_s_21, k_s_22, k_s_23, k_f_1_5, k_f_1_6, k_f_1_7, k_f_1_8, k_f_1_9, k_f_1_10, k_r_2, k_t_2, k_r_9, k_t_9, k_r_16, k_t_16]
    refine ⟨fun d => ?_, fun d => ?_⟩
    · refine hZ I1 ⟨?_, ?_, g3⟩
      · unfold l2S; rw [if_neg (by rw [d]; decide)]; exact g1
      · unfold l2S; rw [if_neg (by rw [d]; decide)]; exact g2
    · refine w_del hV (CS_frame hU hO hS0 (fun a j _ _ => g3 _ _ (by omega) (by omega))) hh hoi g1 (fun I2 k1 k2 => ?_)
      simp (disch := omega) only [s_ic, s_li, s_la, s_si, s_sa, s_inc, s_bin, s_un, s_dup, s_dup2, s_pop, s_if, s_if2, s_gi, s_gr, s_pi, s_pz, s_al, s_aa, s_as, s_az, s_ac, s_mx, s_mn, s_cpy, s_kp, s_ri, s_rz, s_rv, s_cv, s_cs, s_rem, s_div, az_gl, az_sl, az_kp, az_pop, az_fun, az_funX, az_pat, az_in, List.map, List.replicate, List.length, List.cons_append, List.nil_append, Option.toList, f_add, f_sub, f_mul, f_neg, c_eq, c_ne, c_lt, c_ge, c_gt, c_le, d_eq, d_ne, d_lt, d_ge, d_gt, d_le, vinT, nIclamp, nIadd, nImul, nIeq, nIle, nIlt, nIlt0, nIge0, nIgt0, nIle0, nIeq0, ltT, ltF, leT, leF, eqT, eqF, upS, upN, k_n, az_setI, az_setA, true_and, and_true, and_self, true_implies, false_implies, implies_true, not_true_eq_false, not_false_eq_true, Nat.add_zero, Nat.zero_add, Nat.reduceAdd, Nat.reduceSub, Nat.reduceMul, Nat.reduceLT, Nat.reduceLeDiff, Nat.reduceEqDiff, Nat.reducePow, reduceIte, ne_eq, false_and, and_false, exists_eq_left', or_true, true_or, or_false, false_or, nI1one, nI0one, bI0, bI1, bIor, bI_z, bI_1, Bool.not_eq_true, Bool.not_eq_false, Bool.true_eq_false, Bool.false_eq_true, k_s_0, k_f_0_0, k_f_0_1, k_f_0_2, k_f_0_3, k_f_0_4, k_f_0_5, k_f_0_6, k_f_0_7, k_s_47, k_f_47_0, k_s_48, k_r_48, k_s_233, k_f_233_0, k_f_233_1, k_f_233_2, k_f_233_3, k_f_233_4, k_f_233_5, k_f_233_6, k_f_233_7, k_f_233_8, k_f_233_9, k_s_234, k_f_234_0, k_f_234_1, k_f_234_2, k_s_235, k_s_236, k_s_237, k_s_238, k_f_238_0, k_f_238_1, k_f_238_2, k_s_239, k_s_240, k_r_240, k_t_240, k_s_247, k_r_247, k_t_247, k_s_254, k_f_254_0, k_f_254_1, k_f_254_2, k_s_255, k_r_255, k_t_255, k_s_260, k_r_260, k_t_260, k_s_265, k_r_265, k_t_265, k_s_290, k_r_290, k_t_290, k_s_297, k_r_297, k_t_297, k_s_304, k_r_304, k_t_304, k_s_311, k_r_311, k_t_311, k_s_318, k_r_318, k_t_318, k_s_325, k_r_325, k_t_325, k_s_339, k_s_340, k_f_340_0, k_f_340_1, k_f_340_2, k_f_340_3, k_s_341, k_s_342, k_s_343, k_s_344, k_s_345, k_f_345_0, k_f_345_1, k_s_346, k_s_347, k_s_348, k_f_348_0, k_f_348_1, k_f_348_2, k_s_349, k_s_350, k_s_351, k_s_352, k_f_352_0, k_s_353, k_s_1, k_s_2, k_s_9, k_s_16, k_s_21, k_s_22, k_s_23, k_f_1_5, k_f_1_6, k_f_1_7, k_f_1_8, k_f_1_9, k_f_1_10, k_r_2, k_t_2, k_r_9, k_t_9, k_r_16, k_t_16]
      unfold l2S at hZ
      rw [if_pos d] at hZ
      refine hZ _ ⟨⟨fun c hc => ?_, fun c hc => ?_, fun u c hu hc => ?_⟩, fun u hu => ?_, fun q j z1 z2 => ?_⟩
      · rw [upN (by omega)]; exact k1.1 c hc
      · rw [upN (by omega)]; exact k1.2.1 c hc
      · rw [upN (by omega)]; exact k1.2.2 u c hu hc
      · by_cases eu : u = ord i
        · subst eu
          rw [upS ⟨rfl, rfl⟩]
          simp only [va_up, ↓reduceIte]
        · rw [upN (by omega), k2 _ _ (by omega) (by omega), g2 u hu]
          simp only [va_up, eu, ↓reduceIte]
      · rw [upN (by omega), k2 _ _ (by omega) (by omega)]
        exact g3 q j z1 z2
  · intro I1 ⟨g1, g2, g3⟩ Z
    have c4 : I1 1 3 = nI (pU S) := by rw [g3 _ _ (by omega) (by omega)]; exact h4
    simp (disch := omega) only [s_ic, s_li, s_la, s_si, s_sa, s_inc, s_bin, s_un, s_dup, s_dup2, s_pop, s_if, s_if2, s_gi, s_gr, s_pi, s_pz, s_al, s_aa, s_as, s_az, s_ac, s_mx, s_mn, s_cpy, s_kp, s_ri, s_rz, s_rv, s_cv, s_cs, s_rem, s_div, az_gl, az_sl, az_kp, az_pop, az_fun, az_funX, az_pat, az_in, List.map, List.replicate, List.length, List.cons_append, List.nil_append, Option.toList, f_add, f_sub, f_mul, f_neg, c_eq, c_ne, c_lt, c_ge, c_gt, c_le, d_eq, d_ne, d_lt, d_ge, d_gt, d_le, vinT, nIclamp, nIadd, nImul, nIeq, nIle, nIlt, nIlt0, nIge0, nIgt0, nIle0, nIeq0, ltT, ltF, leT, leF, eqT, eqF, upS, upN, k_n, az_setI, az_setA, true_and, and_true, and_self, true_implies, false_implies, implies_true, not_true_eq_false, not_false_eq_true, Nat.add_zero, Nat.zero_add, Nat.reduceAdd, Nat.reduceSub, Nat.reduceMul, Nat.reduceLT, Nat.reduceLeDiff, Nat.reduceEqDiff, Nat.reducePow, reduceIte, ne_eq, false_and, and_false, exists_eq_left', or_true, true_or, or_false, false_or, nI1one, nI0one, bI0, bI1, bIor, bI_z, bI_1, Bool.not_eq_true, Bool.not_eq_false, Bool.true_eq_false, Bool.false_eq_true, BX4_dispatch_126, c4, k_s_0, k_f_0_0, k_f_0_1, k_f_0_2, k_f_0_3, k_f_0_4, k_f_0_5, k_f_0_6, k_f_0_7, k_s_47, k_f_47_0, k_s_48, k_r_48, k_s_233, k_f_233_0, k_f_233_1, k_f_233_2, k_f_233_3, k_f_233_4, k_f_233_5, k_f_233_6, k_f_233_7, k_f_233_8, k_f_233_9, k_s_234, k_f_234_0, k_f_234_1, k_f_234_2, k_s_235, k_s_236, k_s_237, k_s_238, k_f_238_0, k_f_238_1, k_f_238_2, k_s_239, k_s_240, k_r_240, k_t_240, k_s_247, k_r_247, k_t_247, k_s_254, k_f_254_0, k_f_254_1, k_f_254_2, k_s_255, k_r_255, k_t_255, k_s_260, k_r_260, k_t_260, k_s_265, k_r_265, k_t_265, k_s_290, k_r_290, k_t_290, k_s_297, k_r_297, k_t_297, k_s_304, k_r_304, k_t_304, k_s_311, k_r_311, k_t_311, k_s_318, k_r_318, k_t_318, k_s_325, k_r_325, k_t_325, k_s_339, k_s_340, k_f_340_0, k_f_340_1, k_f_340_2, k_f_340_3, k_s_341, k_s_342, k_s_343, k_s_344, k_s_345, k_f_345_0, k_f_345_1, k_s_346, k_s_347, k_s_348, k_f_348_0, k_f_348_1, k_f_348_2, k_s_349, k_s_350, k_s_351, k_s_352, k_f_352_0, k_s_353, k_s_1, k_s_2, k_s_9, k_s_16, k_s_21, k_s_22, k_s_23, k_f_1_5, k_f_1_6, k_f_1_7, k_f_1_8, k_f_1_9, k_f_1_10, k_r_2, k_t_2, k_r_9, k_t_9, k_r_16, k_t_16]
    refine w_addUp hV (CS_frame hU hO hS0 (fun a j _ _ => g3 _ _ (by omega) (by omega))) hh (fun I2 k1 k2 => ?_)
    simp (disch := omega) only [s_ic, s_li, s_la, s_si, s_sa, s_inc, s_bin, s_un, s_dup, s_dup2, s_pop, s_if, s_if2, s_gi, s_gr, s_pi, s_pz, s_al, s_aa, s_as, s_az, s_ac, s_mx, s_mn, s_cpy, s_kp, s_ri, s_rz, s_rv, s_cv, s_cs, s_rem, s_div, az_gl, az_sl, az_kp, az_pop, az_fun, az_funX, az_pat, az_in, List.map, List.replicate, List.length, List.cons_append, List.nil_append, Option.toList, f_add, f_sub, f_mul, f_neg, c_eq, c_ne, c_lt, c_ge, c_gt, c_le, d_eq, d_ne, d_lt, d_ge, d_gt, d_le, vinT, nIclamp, nIadd, nImul, nIeq, nIle, nIlt, nIlt0, nIge0, nIgt0, nIle0, nIeq0, ltT, ltF, leT, leF, eqT, eqF, upS, upN, k_n, az_setI, az_setA, true_and, and_true, and_self, true_implies, false_implies, implies_true, not_true_eq_false, not_false_eq_true, Nat.add_zero, Nat.zero_add, Nat.reduceAdd, Nat.reduceSub, Nat.reduceMul, Nat.reduceLT, Nat.reduceLeDiff, Nat.reduceEqDiff, Nat.reducePow, reduceIte, ne_eq, false_and, and_false, exists_eq_left', or_true, true_or, or_false, false_or, nI1one, nI0one, bI0, bI1, bIor, bI_z, bI_1, Bool.not_eq_true, Bool.not_eq_false, Bool.true_eq_false, Bool.false_eq_true, k_s_0, k_f_0_0, k_f_0_1, k_f_0_2, k_f_0_3, k_f_0_4, k_f_0_5, k_f_0_6, k_f_0_7, k_s_47, k_f_47_0, k_s_48, k_r_48, k_s_233, k_f_233_0, k_f_233_1, k_f_233_2, k_f_233_3, k_f_233_4, k_f_233_5, k_f_233_6, k_f_233_7, k_f_233_8, k_f_233_9, k_s_234, k_f_234_0, k_f_234_1, k_f_234_2, k_s_235, k_s_236, k_s_237, k_s_238, k_f_238_0, k_f_238_1, k_f_238_2, k_s_239, k_s_240, k_r_240, k_t_240, k_s_247, k_r_247, k_t_247, k_s_254, k_f_254_0, k_f_254_1, k_f_254_2, k_s_255, k_r_255, k_t_255, k_s_260, k_r_260, k_t_260, k_s_265, k_r_265, k_t_265, k_s_290, k_r_290, k_t_290, k_s_297, k_r_297, k_t_297, k_s_304, k_r_304, k_t_304, k_s_311, k_r_311, k_t_311, k_s_318, k_r_318, k_t_318, k_s_325, k_r_325, k_t_325, k_s_339, k_s_340, k_f_340_0, k_f_340_1, k_f_340_2, k_f_340_3, k_s_341, k_s_342, k_s_343, k_s_344, k_s_345, k_f_345_0, k_f_345_1, k_s_346, k_s_347, k_s_348, k_f_348_0, k_f_348_1, k_f_348_2, k_s_349, k_s_350, k_s_351, k_s_352, k_f_352_0, k_s_353, k_s_1, k_s_2, k_s_9, k_s_16, k_s_21, k_s_22, k_s_23, k_f_1_5, k_f_1_6, k_f_1_7, k_f_1_8, k_f_1_9, k_f_1_10, k_r_2, k_t_2, k_r_9, k_t_9, k_r_16, k_t_16]
    refine hQ I2 ⟨fun c hc => ?_, fun c hc => ?_, fun u c hu hc => ?_⟩ (fun u hu => ?_) (fun k hk => ?_) (fun q j z1 z2 => ?_)
    · rw [k2 _ _ (by omega)]; exact g1.1 c hc
    · rw [k2 _ _ (by omega)]; exact g1.2.1 c hc
    · rw [k2 _ _ (by omega)]; exact g1.2.2 u c hu hc
    · rw [k2 _ _ (by omega)]; exact g2 u hu
    · rw [k1 k hk, g3 239 h (by omega) (by omega), hm]
      refine suF_congr g1.1 (fun k => suU_congr (fun u hu => ⟨rfl, ?_, g2 u hu, ?_, ?_, ?_⟩))
      · rw [g3 _ _ (by omega) (by omega)]; exact hub u hu
      · rw [g3 _ _ (by omega) (by omega)]; exact hhi u hu
      · rw [g3 _ _ (by omega) (by omega)]; exact hsp u hu
      · rw [g3 _ _ (by omega) (by omega)]; exact hsc u hu
    · rw [k2 _ _ (by omega)]; exact g3 q j (by omega) z2
