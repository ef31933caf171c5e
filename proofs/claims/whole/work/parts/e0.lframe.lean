set_option maxRecDepth 100000
/-! what the two sides keep when the other works -/
theorem CR_fr {A : AT} {I I' : Nat → Nat → Int32} (hC : CR A I) (f : ∀ q j, q < 354 → I' q j = I q j) : CR A I' := by
  obtain ⟨hV, hS, hH, ⟨h8, hsv⟩, hT, st, h9, hout⟩ := hC
  have hU := hV.2.2.2.1
  have hO := hV.2.2.2.2.1
  refine ⟨hV, CS_frame hU hO hS (fun q j _ _ => f _ _ (by omega)), HR_frame hH (fun q j _ _ => f _ _ (by omega)), ⟨by rw [f _ _ (by omega)]; exact h8, fun V hVV => ⟨(hsv V hVV).1, CS_frame (hsv V hVV).1.2.2.2.1 (hsv V hVV).1.2.2.2.2.1 (hsv V hVV).2 (fun q j _ _ => f _ _ (by omega))⟩⟩, XT_frame hT (fun q j _ _ => f _ _ (by omega)), st, by rw [f _ _ (by omega)]; exact h9, fun z => ?_⟩
  obtain ⟨⟨k1, k2, k3⟩, ho, hv⟩ := hout z
  have hHH := hV.1.2
  exact ⟨⟨fun o ho => by rw [f _ _ (by omega)]; exact k1 o ho, fun o ho => by rw [f _ _ (by omega)]; exact k2 o ho, fun h hh => by rw [f _ _ (by omega)]; exact k3 h hh⟩, OI_frame hU hV.2.1.2 ho hHH (fun q h _ _ _ _ => f _ _ (by omega)) (fun h j _ => f _ _ (by omega)), VI_frame hv (fun q j _ _ => f _ _ (by omega))⟩
theorem MR_fr {A : AT} {I I' : Nat → Nat → Int32} (hA : AV A) (hM : MR A I) (f : ∀ q j, 353 < q → I' q j = I q j) : MR A I' := by
  have g : ∀ q, 353 < q → I' q = I q := fun q h => funext (fun j => f q j h)
  obtain ⟨h1, ⟨h2, h3⟩, ⟨h4, h5⟩, ⟨h6, h7, h8⟩, kn, h9, h10⟩ := hM
  refine ⟨by rw [g 355 (by decide)]; exact h1, ⟨by rw [g 354 (by decide)]; exact h2, fun i hi => by rw [g 357 (by decide)]; exact h3 i hi⟩, ⟨by rw [g 354 (by decide)]; exact h4, fun V hVV => by rw [g 356 (by decide)]; exact h5 V hVV⟩, ⟨by rw [g 354 (by decide)]; exact h6, by rw [g 354 (by decide)]; exact h7, fun j hj => by rw [g 375 (by decide)]; exact h8 j hj⟩, kn, by rw [g 354 (by decide)]; exact h9, fun z => OutM_frame hA.1 (h10 z) (f _ _ (by decide)) (fun q j _ _ _ => f _ _ (by omega))⟩
theorem wr_end {ns : List String} {o : ST} {Q P : Option Value → az_M → Prop} {M : az_M} (hn : ∀ k, k < ns.length → az_idx ns (ns.getD k "") 1 = some (k + 1)) (hk : o.1 ≤ ns.length) (h0 : o.1 = 0 → P (some (.int o.2.1)) M) (h1 : o.1 ≠ 0 → Q (some (.int (nI o.1))) M) : fnC ns P (fun E M1 => match az_idx ns E 1 with
    | some i => Q (some (.int (nI i))) M1
    | none => False) o M := by
  obtain ⟨k, x, A⟩ := o
  cases k with
  | zero => exact h0 rfl
  | succ k =>
    show (match az_idx ns (ns.getD k "") 1 with
      | some i => Q (some (.int (nI i))) M
      | none => False)
    rw [hn k hk]
    exact h1 (Nat.succ_ne_zero k)
/-! the law's locals -/
abbrev lwL (pos : Nat) (a b c : Option Value) : List (Option Value) := [some (.ref 1000), some (.ref 0), some (.ref 354), some (.ref 378), some (.ref 379), some (.int (nI pos)), a, b, c]
theorem r_la {i x : Nat} {P : az_T} {ls : List (Option Value)} {st : List Value} {k : Nat × Nat} {M : az_M} (h : az_gl ls i = some (.ref x)) (kk : P ls (.ref x :: st) k M) : s_la i P ls st k M := by
  unfold s_la
  rw [h]
  exact kk
theorem r_si {i : Nat} {x : Int32} {P : az_T} {ls : List (Option Value)} {st : List Value} {k : Nat × Nat} {M : az_M} (kk : P (az_sl ls i (.int x)) st k M) : s_si i P ls (.int x :: st) k M := kk
theorem r_sa {i x : Nat} {P : az_T} {ls : List (Option Value)} {st : List Value} {k : Nat × Nat} {M : az_M} (kk : P (az_sl ls i (.ref x)) st k M) : s_sa i P ls (.ref x :: st) k M := kk
theorem r_fst {i : Nat} {x : UInt32} {P : az_T} {ls : List (Option Value)} {st : List Value} {k : Nat × Nat} {M : az_M} (kk : P (az_sl ls i (.float x)) st k M) : s_fst i P ls (.float x :: st) k M := kk
theorem r_ic {x : Int32} {P : az_T} {ls : List (Option Value)} {st : List Value} {k : Nat × Nat} {M : az_M} (kk : P ls (.int x :: st) k M) : s_ic x P ls st k M := kk
theorem r_dup {x : Nat} {P : az_T} {ls : List (Option Value)} {st : List Value} {k : Nat × Nat} {M : az_M} (kk : P ls (.ref x :: .ref x :: st) k M) : s_dup P ls (.ref x :: st) k M := kk
theorem r_kp {bs : List Bool} {P : az_T} {ls : List (Option Value)} {st : List Value} {k : Nat × Nat} {M : az_M} (kk : P (az_kp bs ls) st k M) : s_kp bs P ls st k M := kk
theorem r_inc {i : Nat} {n x : Int32} {P : az_T} {ls : List (Option Value)} {st : List Value} {k : Nat × Nat} {M : az_M} (h : az_gl ls i = some (.int x)) (kk : P (az_sl ls i (.int (x + n))) st k M) : s_inc i n P ls st k M := by
  unfold s_inc
  rw [h]
  exact kk
theorem r_un {f : Int32 → Int32} {x : Int32} {P : az_T} {ls : List (Option Value)} {st : List Value} {k : Nat × Nat} {M : az_M} (kk : P ls (.int (f x) :: st) k M) : s_un f P ls (.int x :: st) k M := kk
theorem r_bool {x : Int32} {P : az_T} {ls : List (Option Value)} {st : List Value} {k : Nat × Nat} {M : az_M} (kk : P ls (.int (bI (!decide (x = 0))) :: st) k M) : s_if c_eq (s_ic (nI 0) P) (s_ic (nI 1) P) ls (.int x :: st) k M := by
  refine ⟨fun z => ?_, fun z => ?_⟩
  · have z : x = 0 := z
    rw [decide_eq_true z] at kk
    exact kk
  · have z : ¬ x = 0 := z
    rw [decide_eq_false z] at kk
    exact kk
theorem r_ar {L : Nat} {xs : Nat → Int32} {j pos : Nat} {a b c : Option Value} {P : az_T} {st : List Value} {k : Nat × Nat} {M : az_M} (hL : L ≤ 3072) (hp : pos + j < L) (kk : P (lwL pos a b c) (.int (xs (pos + j)) :: st) k M) : s_ar L xs j P (lwL pos a b c) st k M := by
  have e1 : nI pos + nI j = nI (pos + j) := nIadd _ _
  have e2 : (nI (pos + j)).toNatClampNeg = pos + j := nI_clamp (by omega)
  refine ⟨rfl, ?_, ?_⟩
  · show vp_in (nI pos + nI j) L
    rw [e1]
    exact vp_in_nI hp (by omega)
  · show P (lwL pos a b c) (.int (xs (nI pos + nI j).toNatClampNeg) :: st) k M
    rw [e1, e2]
    exact kk
theorem e_thrown {I : Nat → Nat → Int32} {R : RT} {Q : Option Value → az_M → Prop} (h : Q (some (.int (I 354 5))) (K0, I, R)) : FX12_thrown [.ref 354] (K0, I, R) Q := by
  simp (disch := omega) only [s_ic, s_li, s_la, s_si, s_sa, s_inc, s_bin, s_un, s_dup, s_dup2, s_pop, s_if, s_if2, s_gi, s_gr, s_pi, s_pz, s_al, s_aa, s_as, s_az, s_ac, s_mx, s_mn, s_cpy, s_kp, s_ri, s_rz, s_rv, s_cv, s_cs, s_rem, s_div, az_gl, az_sl, az_kp, az_pop, az_fun, az_funX, az_pat, az_in, List.map, List.replicate, List.length, List.cons_append, List.nil_append, Option.toList, f_add, f_sub, f_mul, f_neg, c_eq, c_ne, c_lt, c_ge, c_gt, c_le, d_eq, d_ne, d_lt, d_ge, d_gt, d_le, vinT, nIclamp, nIadd, nImul, nIeq, nIle, nIlt, nIlt0, nIge0, nIgt0, nIle0, nIeq0, ltT, ltF, leT, leF, eqT, eqF, upS, upN, k_n, az_setI, az_setA, true_and, and_true, and_self, true_implies, false_implies, implies_true, not_true_eq_false, not_false_eq_true, Nat.add_zero, Nat.zero_add, Nat.reduceAdd, Nat.reduceSub, Nat.reduceMul, Nat.reduceLT, Nat.reduceLeDiff, Nat.reduceEqDiff, Nat.reducePow, reduceIte, ne_eq, false_and, and_false, exists_eq_left', or_true, true_or, or_false, false_or, nI1one, nI0one, bI0, bI1, bIor, bI_z, bI_1, Bool.not_eq_true, Bool.not_eq_false, Bool.true_eq_false, Bool.false_eq_true, FX12_thrown, PX12_thrown, k_s_354]
  exact h
theorem k_law : 354 < K0.1 ∧ (K0.2.1 354).1 = 13 ∧ 0 < K0.1 ∧ (K0.2.1 0).1 = 12 ∧ 378 < K0.1 ∧ K0.2.1 378 = (23, 1) ∧ 379 < K0.1 ∧ K0.2.1 379 = (24, 1) := by decide +kernel
theorem lg_cmp_self {x : Int64} : lg_cmp x x = 0 := by simp [lg_cmp]
theorem n64_to {a : UInt64} (h : vf_n64 a) : a.toNat % 2 ^ 63 ≤ 9218868437227405312 := by
  unfold vf_n64 at h
  rw [UInt64.le_iff_toNat_le, UInt64.toNat_and] at h
  have h2 : a.toNat &&& (2 ^ 63 - 1) ≤ 9218868437227405312 := h
  rw [Nat.and_two_pow_sub_one_eq_mod] at h2; exact h2
theorem n32_to {a : UInt32} (h : vf_n32 a) : a.toNat % 2 ^ 31 ≤ 2139095040 := by
  unfold vf_n32 at h
  rw [UInt32.le_iff_toNat_le, UInt32.toNat_and] at h
  have h2 : a.toNat &&& (2 ^ 31 - 1) ≤ 2139095040 := h
  rw [Nat.and_two_pow_sub_one_eq_mod] at h2; exact h2
theorem dc_self {x : UInt64} (h : vf_n64 x) : Op.cmpValue (FP.dcmp x x) .l = 0 := by
  have h1 := n64_to h
  have h2 : FP.Core.val64 x ≠ .nan := fun q => by
    have := (FP.Core.isNaN_bits x).mp ((FP.Core.dIsNaN_iff x).mpr q)
    omega
  rw [show FP.dcmp x x = some .eq from FP.Core.dcmp_self h2]; rfl
theorem n64_f2d {x : UInt32} (h : vf_n32 x) : vf_n64 (FP.f2d x) := by
  have h1 := n32_to h
  refine n64_of (Nat.le_of_not_lt fun q => ?_)
  have h3 : FP.Core.dIsNaN (FP.f2d x) = true := (FP.Core.isNaN_bits _).mpr q
  have h4 : FP.Core.dIsNaN (FP.f2d x) = FP.Core.fIsNaN x := FP.f2d_nan x
  rw [h4] at h3
  have := (FP.Core.isNaN_bits32 x).mp h3
  omega
theorem nI_0_ne {k : Nat} (h : k ≤ 3) (h0 : k ≠ 0) : ¬ nI k = 0 := by
  have e : k = 1 ∨ k = 2 ∨ k = 3 := by omega
  rcases e with rfl | rfl | rfl <;> decide
theorem r_tail {Z : az_T} {pos k : Nat} {x : Int32} {b c : Option Value} {q : Nat × Nat} {I : Nat → Nat → Int32} {R : RT} (h : I 354 5 = nI k) (hk : k ≤ 3) (hx : k = 0 → R.1 378 0 = x.toInt64) (hZ : ∀ a b c, Z (lwL pos a b c) [] q (K0, I, R)) : lt_tail Z (lwL pos (some (.int (nI k))) b c) [.int x] q (K0, I, R) := by
  unfold lt_tail
  refine r_si (r_la rfl ⟨k_law.1, k_law.2.1, Nat.zero_le _, e_thrown ?_⟩)
  rw [h]
  refine ⟨fun _ => ⟨fun _ => hZ _ _ _, fun z => ?_⟩, fun z => (z rfl).elim⟩
  have h0 : k = 0 := by
    rcases Nat.eq_zero_or_pos k with q | q
    · exact q
    · exact (z (nI_0_ne hk (by omega))).elim
  subst h0
  refine r_la rfl ⟨k_law.2.2.2.2.1, by show (K0.2.1 378).1 = 23; rw [k_law.2.2.2.2.2.1], by show vp_in (nI 0) (K0.2.1 378).2; rw [k_law.2.2.2.2.2.1]; exact vp_in_nI (by decide) (by decide), ?_⟩
  show (c_eq (lg_cmp (R.1 378 (nI 0).toNatClampNeg) x.toInt64) → _) ∧ (¬ c_eq (lg_cmp (R.1 378 (nI 0).toNatClampNeg) x.toInt64) → _)
  rw [show R.1 378 (nI 0).toNatClampNeg = x.toInt64 from hx rfl, lg_cmp_self]
  exact ⟨fun _ => hZ _ _ _, fun z => (z rfl).elim⟩
theorem r_tailF {Z : az_T} {pos k : Nat} {x : UInt32} {b c : Option Value} {q : Nat × Nat} {I : Nat → Nat → Int32} {R : RT} (h : I 354 5 = nI k) (hk : k ≤ 3) (hx : k = 0 → R.2 379 0 = FP.f2d x ∧ vf_n64 (FP.f2d x)) (hZ : ∀ a b c, Z (lwL pos a b c) [] q (K0, I, R)) : lt_tailF Z (lwL pos (some (.int (nI k))) b c) [.float x] q (K0, I, R) := by
  unfold lt_tailF
  refine r_fst (r_la rfl ⟨k_law.1, k_law.2.1, Nat.zero_le _, e_thrown ?_⟩)
  rw [h]
  refine ⟨fun _ => ⟨fun _ => hZ _ _ _, fun z => ?_⟩, fun z => (z rfl).elim⟩
  have h0 : k = 0 := by
    rcases Nat.eq_zero_or_pos k with q | q
    · exact q
    · exact (z (nI_0_ne hk (by omega))).elim
  subst h0
  obtain ⟨x1, x2⟩ := hx rfl
  refine r_la rfl ⟨k_law.2.2.2.2.2.2.1, by show (K0.2.1 379).1 = 24; rw [k_law.2.2.2.2.2.2.2], by show vp_in (nI 0) (K0.2.1 379).2; rw [k_law.2.2.2.2.2.2.2]; exact vp_in_nI (by decide) (by decide), ?_⟩
  refine ⟨x2, ?_⟩
  show (c_eq (Op.cmpValue (FP.dcmp (R.2 379 (nI 0).toNatClampNeg) (FP.f2d x)) .l) → _) ∧ (¬ c_eq (Op.cmpValue (FP.dcmp (R.2 379 (nI 0).toNatClampNeg) (FP.f2d x)) .l) → _)
  rw [show R.2 379 (nI 0).toNatClampNeg = FP.f2d x from x1, dc_self x2]
  exact ⟨fun _ => hZ _ _ _, fun z => (z rfl).elim⟩
theorem ldN_ne {S : PS} {u : Nat} (hV : VS S) (hu : u < pU S) (h : hrN S u ≠ 0) : ldN S u ≠ 0 := by
  have v10 := (hV.2.2.2.2.2.1 u hu).2.2.2.2.2.2.2.2.2.2.2.1
  have hHH := hV.1.2
  have hle := fb_ct_le (fun h => bt (fdM S h) u) (pH S)
  obtain ⟨w1, w2⟩ := v10
  unfold ldN
  unfold hrN at h ⊢
  generalize fb_ct (fun h => bt (fdM S h) u) (pH S) = n at hle h ⊢
  intro z
  have hm : (pT S u 10).toInt * (n : Int) ≤ 500 * 24 := Int.mul_le_mul w2 (by omega) (by omega) (by omega)
  have hm0 : 0 ≤ (pT S u 10).toInt * (n : Int) := Int.mul_nonneg (by omega) (by omega)
  have ht : (pT S u 10 * nI n).toInt = (pT S u 10).toInt * (n : Int) := by
    rw [tI_mul (by rw [tI_n (by omega)]; omega), tI_n (by omega)]
  rw [z, tI_0] at ht
  rcases Int.mul_eq_zero.mp ht.symm with q | q <;> omega
