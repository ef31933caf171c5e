set_option maxRecDepth 100000
set_option maxHeartbeats 1000000
/-! the law from its entry, over an empty world -/
def rlC (m : Nat) (ls : List (Option Value)) (st : List Value) : Bool := ls.all (fun o => match o with
  | some (.ref a) => decide (a < m) || decide (1000 ≤ a)
  | _ => true) && st.all (fun v => match v with
  | .ref a => decide (a < m) || decide (1000 ≤ a)
  | _ => true)
theorem rl_C {m : Nat} {ls : List (Option Value)} {st : List Value} (h : rlC m ls st = true) : az_rl m ls st := by
  unfold rlC at h
  rw [Bool.and_eq_true, List.all_eq_true, List.all_eq_true] at h
  refine ⟨fun v hv => ?_, fun v hv => ?_⟩
  · have := h.1 _ hv
    cases v with
    | ref a => exact (by simpa using this : a < m ∨ 1000 ≤ a)
    | _ => trivial
  · have := h.2 _ hv
    cases v with
    | ref a => exact (by simpa using this : a < m ∨ 1000 ≤ a)
    | _ => trivial
theorem lw_all {L : Nat} {xs : Nat → Int32} {Q : Option Value → az_M → Prop} (hL : L ≤ 3072) (hQ : ∀ M, Q (some (.int (nI 1))) M) {I : Nat → Nat → Int32} {R : RT} (hz : zrF 0 I R) : PL_law L xs Q [some (.ref 1000), none, none, none, none, none, none, none, none] [] (0, 0) (KP 0 [], I, R) := by
  unfold PL_law
  refine st_new (m := 0) (pd := []) (Nat.le_refl _) (by decide) clP_0 (rl_C (by decide)) hz (by decide +kernel) (by decide) (by decide) ?_
  have x0 := clP_new clP_0
  refine r_dup (st_ci (m := 1) (b := 0) (by decide) (by decide) (by decide +kernel) (by decide) (rl_C (by decide)) (by decide) (by decide) ?_)
  refine i_UnitCommitment pdO_0 x0 (zrF_up hz (by decide)) (fun I1 n1 c1 => ?_)
  have n7 := n1.2.2.2.2.2.2
  have hz1 : zrF 354 I1 R := zrF_fr2 hz (by decide) (fun q j h => n7 q j (by omega))
  have pO : ∀ m, pdO m [] := fun m => pdO_up pdO_0 (Nat.zero_le _)
  refine r_sa (st_new (m := 354) (pd := []) (by decide) (by decide) c1 (rl_C (by decide)) hz1 (by decide +kernel) (by decide) (by decide) ?_)
  have x1 := clP_new c1
  refine r_dup (st_ci (m := 355) (b := 354) (by decide) (by decide) (by decide +kernel) (by decide) (rl_C (by decide)) (by decide) (by decide) ?_)
  refine i_UnitCommitmentModel (pO 354) x1 (zrF_up hz1 (by decide)) (fun I2 m1 m2 m3 m4 f2 c2 => ?_)
  have hz2 : zrF 378 I2 R := ⟨fun q j z => by rw [f2 q j (by omega) (by omega)]; exact hz1.1 q j (by omega), (zrF_up hz1 (by decide : 354 ≤ 378)).2⟩
  have y0 := k_all (a := 378) (by decide +kernel)
  refine r_sa (r_ic (st_nar (m := 378) (N := 1) (by decide) (by decide) (by decide) (pO 378) c2 (rl_C (by decide)) hz2 k_law.2.2.2.2.2.1 y0 (by decide) (by decide) ?_))
  have x2 := clP_row (m := 378) (pO 378) c2 y0
  have y1 := k_all (a := 379) (by decide +kernel)
  refine r_sa (r_ic (st_nar (m := 379) (N := 1) (by decide) (by decide) (by decide) (pO 379) x2 (rl_C (by decide)) (zrF_up hz2 (by decide)) k_law.2.2.2.2.2.2.2 y1 (by decide) (by decide) ?_))
  refine r_sa (r_ic (r_si (r_kp ?_)))
  show LL_28 L xs Q (lwL 0 none none none) [] _ (KP 380 [], I2, R)
  rw [KP_end]
  have e0 : ∀ j, I2 354 j = I1 354 j ∨ j = 4 ∨ j = 7 ∨ j = 29 := fun j => by
    by_cases h : j = 4 ∨ j = 7 ∨ j = 29
    · exact Or.inr h
    · exact Or.inl (f2 354 j (by decide) (fun z => h z.2))
  have e2 : ∀ j, j = 2 ∨ j = 26 → I2 354 j = nI 0 := fun j h => by
    rw [f2 354 j (by decide) (by omega), hz1.1 354 j (by decide)]; rfl
  refine ⟨512 + 1, lw_go hL hQ 512 0 A0 I2 R none none none _ (by omega) (by decide) (CR_fr (i_CR VS_new n1) (fun q j z => f2 q j (by omega) (by omega))) (i_MR m1 m2 m3 m4 (e2 2 (Or.inl rfl)) (e2 26 (Or.inr rfl))) (by decide) (by decide)⟩
