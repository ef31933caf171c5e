/-! by program (wip/whole/gen_ipure.py): the class's constructor -/
set_option maxRecDepth 100000
set_option maxHeartbeats 4000000
theorem zrF_fr2 {m e : Nat} {I I' : Nat → Nat → Int32} {R : RT} (h : zrF m I R) (hm : m ≤ e) (f : ∀ q j, e ≤ q → I' q j = I q j) : zrF e I' R := ⟨fun q j z => by rw [f q j z]; exact h.1 q j (by omega), fun q j z => h.2.1 q j (by omega), fun q j z => h.2.2 q j (by omega)⟩
def newI (I I' : Nat → Nat → Int32) : Prop := CS 1 (S0 6 1) I' ∧ I' 0 8 = nI 0 ∧ I' 0 9 = nI 1 ∧ (I' 47 1 = nI 0 ∧ I' 47 2 = nI 0) ∧ I' 352 1 = nI 0 ∧ I' 352 2 = -1 ∧ ∀ q j, 353 < q → I' q j = I q j
theorem i_UnitCommitment {I : Nat → Nat → Int32} {R : RT} {pd : List (Nat × Nat)} {Q : Option Value → az_M → Prop} (hp : pdO 0 pd) (hc : clP 1 ((0, 0) :: pd)) (hz : zrF 1 I R) (hQ : ∀ I', newI I I' → clP 354 pd → Q none (KP 354 pd, I', R)) : FX11_init [.ref 0] (KP 1 ((0, 0) :: pd), I, R) Q := by
  have pO : ∀ m t, 0 < m → pdO m ((0, t) :: pd) := fun m t hm => pdO_cons (pdO_up hp (by omega)) hm
  refine ⟨rfl, ?_⟩
  show PX11_init 1 Q [some (.ref 0)] [] (0, 0) (KP 1 ((0, 0) :: pd), I, R)
  unfold PX11_init
  refine ⟨show 0 ≤ 4 by decide, ?_⟩
  refine st_new (m := 1) (by decide) (by decide) hc (rl_B (by decide)) (zrF_up hz (by decide)) (by decide +kernel) (by decide) (by decide) ?_
  have x0 := clP_new hc
  refine st_ci (m := 2) (b := 1) (by decide) (by decide) (by decide +kernel) (by decide) (rl_B (by decide)) (by decide) (by decide) ?_
  refine i_State (a := 1) k_c1 (by decide) (pO _ _ (by decide)) x0 (zrF_up hz (by decide)) (fun I1 a1 f1 x1 => ?_)
  have z1 : zrF 24 I1 R := zrF_fr (zrF_up hz (by decide)) f1
  have p2 : (∀ i, i < 0 → 0 ≤ i → K0.2.2 0 i = none) ∧ K0.2.2 0 0 = some 1 := by decide +kernel
  refine st_prS (a := 0) (b := 1) (j := 0) (t := 0) (by decide) (by decide +kernel) (by decide) p2.1 p2.2 ?_
  have x2 := clP_setS x1 (show 0 < 24 by decide) (show 1 < 24 by decide) (by decide) p2.1 p2.2
  refine st_new (m := 24) (by decide) (by decide) x2 (rl_B (by decide)) (zrF_up z1 (by decide)) (by decide +kernel) (by decide) (by decide) ?_
  have x3 := clP_new x2
  refine st_ci (m := 25) (b := 24) (by decide) (by decide) (by decide +kernel) (by decide) (rl_B (by decide)) (by decide) (by decide) ?_
  refine i_State (a := 24) k_c24 (by decide) (pO _ _ (by decide)) x3 (zrF_up z1 (by decide)) (fun I4 a4 f4 x4 => ?_)
  have z4 : zrF 47 I4 R := zrF_fr (zrF_up z1 (by decide)) f4
  have p5 : (∀ i, i < 1 → 1 ≤ i → K0.2.2 0 i = none) ∧ K0.2.2 0 1 = some 24 := by decide +kernel
  refine st_prS (a := 0) (b := 24) (j := 1) (t := 1) (by decide) (by decide +kernel) (by decide) p5.1 p5.2 ?_
  have x5 := clP_setS x4 (show 0 < 47 by decide) (show 24 < 47 by decide) (by decide) p5.1 p5.2
  refine st_new (m := 47) (by decide) (by decide) x5 (rl_B (by decide)) (zrF_up z4 (by decide)) (by decide +kernel) (by decide) (by decide) ?_
  have x6 := clP_new x5
  refine st_ci (m := 48) (b := 47) (by decide) (by decide) (by decide +kernel) (by decide) (rl_B (by decide)) (by decide) (by decide) ?_
  refine i_History (pO _ _ (by decide)) x6 (zrF_up z4 (by decide)) (fun I7 g7 f7 x7 => ?_)
  have z7 : zrF 233 I7 R := zrF_fr2 (e := 233) z4 (by decide) (fun q j z => f7 q j (by omega))
  have p8 : (∀ i, i < 2 → 2 ≤ i → K0.2.2 0 i = none) ∧ K0.2.2 0 2 = some 47 := by decide +kernel
  refine st_prS (a := 0) (b := 47) (j := 2) (t := 2) (by decide) (by decide +kernel) (by decide) p8.1 p8.2 ?_
  have x8 := clP_setS x7 (show 0 < 233 by decide) (show 47 < 233 by decide) (by decide) p8.1 p8.2
  refine st_new (m := 233) (by decide) (by decide) x8 (rl_B (by decide)) (zrF_up z7 (by decide)) (by decide +kernel) (by decide) (by decide) ?_
  have x9 := clP_new x8
  refine st_ci (m := 234) (b := 233) (by decide) (by decide) (by decide +kernel) (by decide) (rl_B (by decide)) (by decide) (by decide) ?_
  refine i_Outcome (pO _ _ (by decide)) x9 (zrF_up z7 (by decide)) (fun x10 => ?_)
  have p11 : (∀ i, i < 3 → 3 ≤ i → K0.2.2 0 i = none) ∧ K0.2.2 0 3 = some 233 := by decide +kernel
  refine st_prS (a := 0) (b := 233) (j := 3) (t := 3) (by decide) (by decide +kernel) (by decide) p11.1 p11.2 ?_
  have x11 := clP_setS x10 (show 0 < 340 by decide) (show 233 < 340 by decide) (by decide) p11.1 p11.2
  refine st_new (m := 340) (by decide) (by decide) x11 (rl_B (by decide)) (zrF_up z7 (by decide)) (by decide +kernel) (by decide) (by decide) ?_
  have x12 := clP_new x11
  refine st_ci (m := 341) (b := 340) (by decide) (by decide) (by decide +kernel) (by decide) (rl_B (by decide)) (by decide) (by decide) ?_
  refine i_Violations (pO _ _ (by decide)) x12 (zrF_up z7 (by decide)) (fun x13 => ?_)
  have z13 : zrF 345 (az_up I7 340 4 (nI 0)) R := (zrF_w (zrF_up z7 (by decide)) (by decide))
  have p14 : (∀ i, i < 4 → 4 ≤ i → K0.2.2 0 i = none) ∧ K0.2.2 0 4 = some 340 := by decide +kernel
  refine st_prS (a := 0) (b := 340) (j := 4) (t := 4) (by decide) (by decide +kernel) (by decide) p14.1 p14.2 ?_
  have x14 := clP_setS x13 (show 0 < 345 by decide) (show 340 < 345 by decide) (by decide) p14.1 p14.2
  refine st_new (m := 345) (by decide) (by decide) x14 (rl_B (by decide)) (zrF_up z13 (by decide)) (by decide +kernel) (by decide) (by decide) ?_
  have x15 := clP_new x14
  refine st_ci (m := 346) (b := 345) (by decide) (by decide) (by decide +kernel) (by decide) (rl_B (by decide)) (by decide) (by decide) ?_
  refine i_Merit (pO _ _ (by decide)) x15 (zrF_up z13 (by decide)) (fun x16 => ?_)
  have p17 : (∀ i, i < 5 → 5 ≤ i → K0.2.2 0 i = none) ∧ K0.2.2 0 5 = some 345 := by decide +kernel
  refine st_prS (a := 0) (b := 345) (j := 5) (t := 5) (by decide) (by decide +kernel) (by decide) p17.1 p17.2 ?_
  have x17 := clP_setS x16 (show 0 < 348 by decide) (show 345 < 348 by decide) (by decide) p17.1 p17.2
  refine st_new (m := 348) (by decide) (by decide) x17 (rl_B (by decide)) (zrF_up z13 (by decide)) (by decide +kernel) (by decide) (by decide) ?_
  have x18 := clP_new x17
  refine st_ci (m := 349) (b := 348) (by decide) (by decide) (by decide +kernel) (by decide) (rl_B (by decide)) (by decide) (by decide) ?_
  refine i_Search (pO _ _ (by decide)) x18 (zrF_up z13 (by decide)) (fun x19 => ?_)
  have z19 : zrF 352 (az_up (az_up (az_up (az_up I7 340 4 (nI 0)) 348 3 (nI 0)) 348 4 (nI 0)) 348 5 (nI 0)) R := (zrF_w (zrF_w (zrF_w (zrF_up z13 (by decide)) (by decide)) (by decide)) (by decide))
  have p20 : (∀ i, i < 6 → 6 ≤ i → K0.2.2 0 i = none) ∧ K0.2.2 0 6 = some 348 := by decide +kernel
  refine st_prS (a := 0) (b := 348) (j := 6) (t := 6) (by decide) (by decide +kernel) (by decide) p20.1 p20.2 ?_
  have x20 := clP_setS x19 (show 0 < 352 by decide) (show 348 < 352 by decide) (by decide) p20.1 p20.2
  refine st_new (m := 352) (by decide) (by decide) x20 (rl_B (by decide)) (zrF_up z19 (by decide)) (by decide +kernel) (by decide) (by decide) ?_
  have x21 := clP_new x20
  refine st_ci (m := 353) (b := 352) (by decide) (by decide) (by decide +kernel) (by decide) (rl_B (by decide)) (by decide) (by decide) ?_
  refine i_PlanText (pO _ _ (by decide)) x21 (zrF_up z19 (by decide)) (fun x22 => ?_)
  have z22 : zrF 354 (az_up (az_up (az_up (az_up (az_up (az_up I7 340 4 (nI 0)) 348 3 (nI 0)) 348 4 (nI 0)) 348 5 (nI 0)) 352 1 (nI 0)) 352 2 (-1)) R := (zrF_w (zrF_w (zrF_up z19 (by decide)) (by decide)) (by decide))
  have p23 : (∀ i, i < 7 → 7 ≤ i → K0.2.2 0 i = none) ∧ K0.2.2 0 7 = some 352 := by decide +kernel
  refine st_prS (a := 0) (b := 352) (j := 7) (t := 7) (by decide) (by decide +kernel) (by decide) p23.1 p23.2 ?_
  have x23 := clP_setS x22 (show 0 < 354 by decide) (show 352 < 354 by decide) (by decide) p23.1 p23.2
  refine ⟨show 0 < 354 by decide, show (K0.2.1 0).1 = 12 by decide +kernel, by first | exact Or.inl nI_0 | exact Or.inr rfl | decide, ?_⟩
  have z24 : zrF 354 (az_up (az_up (az_up (az_up (az_up (az_up (az_up I7 340 4 (nI 0)) 348 3 (nI 0)) 348 4 (nI 0)) 348 5 (nI 0)) 352 1 (nI 0)) 352 2 (-1)) 0 8 (nI 0)) R := zrF_w (zrF_up z22 (by decide)) (by decide)
  refine ⟨show 0 < 354 by decide, show (K0.2.1 0).1 = 12 by decide +kernel, by first | exact Or.inl nI_0 | exact Or.inr rfl | decide, ?_⟩
  have z25 : zrF 354 (az_up (az_up (az_up (az_up (az_up (az_up (az_up (az_up I7 340 4 (nI 0)) 348 3 (nI 0)) 348 4 (nI 0)) 348 5 (nI 0)) 352 1 (nI 0)) 352 2 (-1)) 0 8 (nI 0)) 0 9 (nI 1)) R := zrF_w (zrF_up z24 (by decide)) (by decide)
  have dn : ∀ j, j < 40 → 8 ≤ j → K0.2.2 0 j = none := by decide +kernel
  show s_rv Q _ [] _ (KP 354 ((0, 8) :: pd), (az_up (az_up (az_up (az_up (az_up (az_up (az_up (az_up I7 340 4 (nI 0)) 348 3 (nI 0)) 348 4 (nI 0)) 348 5 (nI 0)) 352 1 (nI 0)) 352 2 (-1)) 0 8 (nI 0)) 0 9 (nI 1)), R)
  refine st_rv (hp _ (Nat.le_refl _)) dn (hQ _ ?_ (clP_done (hp _ (Nat.le_refl _)) dn x23))
  refine ⟨CS_frame (b := 1) (by decide) (by decide) a1 (fun q j h1 h2 => by rw [upN (by omega), upN (by omega), upN (by omega), upN (by omega), upN (by omega), upN (by omega), upN (by omega), upN (by omega), f7 q j (by omega), f4 q j (by omega)]), ?_, ?_, ⟨?_, ?_⟩, ?_, ?_, fun q j z => ?_⟩
  · rw [upN (by omega), upS ⟨rfl, rfl⟩]
  · rw [upS ⟨rfl, rfl⟩]
  · rw [upN (by omega), upN (by omega), upN (by omega), upN (by omega), upN (by omega), upN (by omega), upN (by omega), upN (by omega)]; exact g7.1
  · rw [upN (by omega), upN (by omega), upN (by omega), upN (by omega), upN (by omega), upN (by omega), upN (by omega), upN (by omega)]; exact g7.2
  · rw [upN (by omega), upN (by omega), upN (by omega), upS ⟨rfl, rfl⟩]
  · rw [upN (by omega), upN (by omega), upS ⟨rfl, rfl⟩]
  · rw [upN (by omega), upN (by omega), upN (by omega), upN (by omega), upN (by omega), upN (by omega), upN (by omega), upN (by omega), f7 q j (by omega), f4 q j (by omega), f1 q j (by omega)]
