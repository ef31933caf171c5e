/-! by program (wip/whole/gen_ipure.py): the outcome's constructor -/
set_option maxRecDepth 100000
set_option maxHeartbeats 2000000
theorem i_Outcome {I : Nat → Nat → Int32} {R : RT} {pd : List (Nat × Nat)} {Q : Option Value → az_M → Prop} (hp : pdO 233 pd) (hc : clP 234 ((233, 0) :: pd)) (hz : zrF 234 I R) (hQ : clP 340 pd → Q none (KP 340 pd, I, R)) : FX4_init [.ref 233] (KP 234 ((233, 0) :: pd), I, R) Q := by
  have pO : ∀ m t, 233 < m → pdO m ((233, t) :: pd) := fun m t hm => pdO_cons (pdO_up hp (by omega)) hm
  refine ⟨rfl, ?_⟩
  show PX4_init 234 Q [some (.ref 233)] [] (0, 0) (KP 234 ((233, 0) :: pd), I, R)
  unfold PX4_init
  refine ⟨show 0 ≤ 4 by decide, ?_⟩
  refine st_new (m := 234) (by decide) (by decide) hc (rl_B (by decide)) (zrF_up hz (by decide)) (by decide +kernel) (by decide) (by decide) ?_
  have x0 := clP_new hc
  refine st_ci (m := 235) (b := 234) (by decide) (by decide) (by decide +kernel) (by decide) (rl_B (by decide)) (by decide) (by decide) ?_
  refine i_Crew (pO _ _ (by decide)) x0 (zrF_up hz (by decide)) (fun x1 => ?_)
  have p2 : (∀ i, i < 0 → 0 ≤ i → K0.2.2 233 i = none) ∧ K0.2.2 233 0 = some 234 := by decide +kernel
  refine st_prS (a := 233) (b := 234) (j := 0) (t := 0) (by decide) (by decide +kernel) (by decide) p2.1 p2.2 ?_
  have x2 := clP_setS x1 (show 233 < 238 by decide) (show 234 < 238 by decide) (by decide) p2.1 p2.2
  refine st_new (m := 238) (by decide) (by decide) x2 (rl_B (by decide)) (zrF_up hz (by decide)) (by decide +kernel) (by decide) (by decide) ?_
  have x3 := clP_new x2
  refine st_ci (m := 239) (b := 238) (by decide) (by decide) (by decide +kernel) (by decide) (rl_B (by decide)) (by decide) (by decide) ?_
  refine i_Times (pO _ _ (by decide)) x3 (zrF_up hz (by decide)) (fun x4 => ?_)
  have p5 : (∀ i, i < 1 → 1 ≤ i → K0.2.2 233 i = none) ∧ K0.2.2 233 1 = some 238 := by decide +kernel
  refine st_prS (a := 233) (b := 238) (j := 1) (t := 1) (by decide) (by decide +kernel) (by decide) p5.1 p5.2 ?_
  have x5 := clP_setS x4 (show 233 < 254 by decide) (show 238 < 254 by decide) (by decide) p5.1 p5.2
  refine st_new (m := 254) (by decide) (by decide) x5 (rl_B (by decide)) (zrF_up hz (by decide)) (by decide +kernel) (by decide) (by decide) ?_
  have x6 := clP_new x5
  refine st_ci (m := 255) (b := 254) (by decide) (by decide) (by decide +kernel) (by decide) (rl_B (by decide)) (by decide) (by decide) ?_
  refine i_Grid (pO _ _ (by decide)) x6 (zrF_up hz (by decide)) (fun x7 => ?_)
  have p8 : (∀ i, i < 2 → 2 ≤ i → K0.2.2 233 i = none) ∧ K0.2.2 233 2 = some 254 := by decide +kernel
  refine st_prS (a := 233) (b := 254) (j := 2) (t := 2) (by decide) (by decide +kernel) (by decide) p8.1 p8.2 ?_
  have x8 := clP_setS x7 (show 233 < 290 by decide) (show 254 < 290 by decide) (by decide) p8.1 p8.2
  have y9 := k_tab (a := 290) (N := 6) (by decide) (by decide +kernel)
  have r9 : ∀ i, i < 6 → ∀ j, j < 40 → K0.2.2 (290 + 1 + i) j = none := by decide +kernel
  refine st_mna (m := 290) (w := 24) (N := 6) (by decide) (by decide) (by decide) (by decide) (pO _ _ (by decide)) x8 (rl_B (by decide)) (zrF_up hz (by decide)) (by decide +kernel) (by decide +kernel) y9 (fun i j hi => k_all (r9 i hi) j) (by decide) (by decide) ?_
  have x9 := clP_tab (m := 290) (N := 6) (pO 290 3 (by decide)) x8 y9 (fun i j hi => k_all (r9 i hi) j)
  have p10 : (∀ i, i < 3 → 3 ≤ i → K0.2.2 233 i = none) ∧ K0.2.2 233 3 = some 290 := by decide +kernel
  refine st_prS (a := 233) (b := 290) (j := 3) (t := 3) (by decide) (by decide +kernel) (by decide) p10.1 p10.2 ?_
  have x10 := clP_setS x9 (show 233 < 297 by decide) (show 290 < 297 by decide) (by decide) p10.1 p10.2
  have y11 := k_tab (a := 297) (N := 6) (by decide) (by decide +kernel)
  have r11 : ∀ i, i < 6 → ∀ j, j < 40 → K0.2.2 (297 + 1 + i) j = none := by decide +kernel
  refine st_mna (m := 297) (w := 24) (N := 6) (by decide) (by decide) (by decide) (by decide) (pO _ _ (by decide)) x10 (rl_B (by decide)) (zrF_up hz (by decide)) (by decide +kernel) (by decide +kernel) y11 (fun i j hi => k_all (r11 i hi) j) (by decide) (by decide) ?_
  have x11 := clP_tab (m := 297) (N := 6) (pO 297 4 (by decide)) x10 y11 (fun i j hi => k_all (r11 i hi) j)
  have p12 : (∀ i, i < 4 → 4 ≤ i → K0.2.2 233 i = none) ∧ K0.2.2 233 4 = some 297 := by decide +kernel
  refine st_prS (a := 233) (b := 297) (j := 4) (t := 4) (by decide) (by decide +kernel) (by decide) p12.1 p12.2 ?_
  have x12 := clP_setS x11 (show 233 < 304 by decide) (show 297 < 304 by decide) (by decide) p12.1 p12.2
  have y13 := k_tab (a := 304) (N := 6) (by decide) (by decide +kernel)
  have r13 : ∀ i, i < 6 → ∀ j, j < 40 → K0.2.2 (304 + 1 + i) j = none := by decide +kernel
  refine st_mna (m := 304) (w := 24) (N := 6) (by decide) (by decide) (by decide) (by decide) (pO _ _ (by decide)) x12 (rl_B (by decide)) (zrF_up hz (by decide)) (by decide +kernel) (by decide +kernel) y13 (fun i j hi => k_all (r13 i hi) j) (by decide) (by decide) ?_
  have x13 := clP_tab (m := 304) (N := 6) (pO 304 5 (by decide)) x12 y13 (fun i j hi => k_all (r13 i hi) j)
  have p14 : (∀ i, i < 5 → 5 ≤ i → K0.2.2 233 i = none) ∧ K0.2.2 233 5 = some 304 := by decide +kernel
  refine st_prS (a := 233) (b := 304) (j := 5) (t := 5) (by decide) (by decide +kernel) (by decide) p14.1 p14.2 ?_
  have x14 := clP_setS x13 (show 233 < 311 by decide) (show 304 < 311 by decide) (by decide) p14.1 p14.2
  have y15 := k_tab (a := 311) (N := 6) (by decide) (by decide +kernel)
  have r15 : ∀ i, i < 6 → ∀ j, j < 40 → K0.2.2 (311 + 1 + i) j = none := by decide +kernel
  refine st_mna (m := 311) (w := 24) (N := 6) (by decide) (by decide) (by decide) (by decide) (pO _ _ (by decide)) x14 (rl_B (by decide)) (zrF_up hz (by decide)) (by decide +kernel) (by decide +kernel) y15 (fun i j hi => k_all (r15 i hi) j) (by decide) (by decide) ?_
  have x15 := clP_tab (m := 311) (N := 6) (pO 311 6 (by decide)) x14 y15 (fun i j hi => k_all (r15 i hi) j)
  have p16 : (∀ i, i < 6 → 6 ≤ i → K0.2.2 233 i = none) ∧ K0.2.2 233 6 = some 311 := by decide +kernel
  refine st_prS (a := 233) (b := 311) (j := 6) (t := 6) (by decide) (by decide +kernel) (by decide) p16.1 p16.2 ?_
  have x16 := clP_setS x15 (show 233 < 318 by decide) (show 311 < 318 by decide) (by decide) p16.1 p16.2
  have y17 := k_tab (a := 318) (N := 6) (by decide) (by decide +kernel)
  have r17 : ∀ i, i < 6 → ∀ j, j < 40 → K0.2.2 (318 + 1 + i) j = none := by decide +kernel
  refine st_mna (m := 318) (w := 24) (N := 6) (by decide) (by decide) (by decide) (by decide) (pO _ _ (by decide)) x16 (rl_B (by decide)) (zrF_up hz (by decide)) (by decide +kernel) (by decide +kernel) y17 (fun i j hi => k_all (r17 i hi) j) (by decide) (by decide) ?_
  have x17 := clP_tab (m := 318) (N := 6) (pO 318 7 (by decide)) x16 y17 (fun i j hi => k_all (r17 i hi) j)
  have p18 : (∀ i, i < 7 → 7 ≤ i → K0.2.2 233 i = none) ∧ K0.2.2 233 7 = some 318 := by decide +kernel
  refine st_prS (a := 233) (b := 318) (j := 7) (t := 7) (by decide) (by decide +kernel) (by decide) p18.1 p18.2 ?_
  have x18 := clP_setS x17 (show 233 < 325 by decide) (show 318 < 325 by decide) (by decide) p18.1 p18.2
  have y19 := k_tab (a := 325) (N := 13) (by decide) (by decide +kernel)
  have r19 : ∀ i, i < 13 → ∀ j, j < 40 → K0.2.2 (325 + 1 + i) j = none := by decide +kernel
  refine st_mna (m := 325) (w := 24) (N := 13) (by decide) (by decide) (by decide) (by decide) (pO _ _ (by decide)) x18 (rl_B (by decide)) (zrF_up hz (by decide)) (by decide +kernel) (by decide +kernel) y19 (fun i j hi => k_all (r19 i hi) j) (by decide) (by decide) ?_
  have x19 := clP_tab (m := 325) (N := 13) (pO 325 8 (by decide)) x18 y19 (fun i j hi => k_all (r19 i hi) j)
  have p20 : (∀ i, i < 8 → 8 ≤ i → K0.2.2 233 i = none) ∧ K0.2.2 233 8 = some 325 := by decide +kernel
  refine st_prS (a := 233) (b := 325) (j := 8) (t := 8) (by decide) (by decide +kernel) (by decide) p20.1 p20.2 ?_
  have x20 := clP_setS x19 (show 233 < 339 by decide) (show 325 < 339 by decide) (by decide) p20.1 p20.2
  have y21 := k_all (a := 339) (by decide +kernel)
  refine st_nar (m := 339) (N := 6) (by decide) (by decide) (by decide) (pO _ _ (by decide)) x20 (rl_B (by decide)) (zrF_up hz (by decide)) (by decide +kernel) y21 (by decide) (by decide) ?_
  have x21 := clP_row (m := 339) (pO 339 9 (by decide)) x20 y21
  have p22 : (∀ i, i < 9 → 9 ≤ i → K0.2.2 233 i = none) ∧ K0.2.2 233 9 = some 339 := by decide +kernel
  refine st_prS (a := 233) (b := 339) (j := 9) (t := 9) (by decide) (by decide +kernel) (by decide) p22.1 p22.2 ?_
  have x22 := clP_setS x21 (show 233 < 340 by decide) (show 339 < 340 by decide) (by decide) p22.1 p22.2
  have dn : ∀ j, j < 40 → 10 ≤ j → K0.2.2 233 j = none := by decide +kernel
  exact st_rv (hp _ (Nat.le_refl _)) dn (hQ (clP_done (hp _ (Nat.le_refl _)) dn x22))
