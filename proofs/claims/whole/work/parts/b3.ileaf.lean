/-! by program (wip/whole/gen_ipure.py): the constructors that make rows only -/
set_option maxRecDepth 100000
set_option maxHeartbeats 2000000
theorem i_Crew {I : Nat → Nat → Int32} {R : RT} {pd : List (Nat × Nat)} {Q : Option Value → az_M → Prop} (hp : pdO 234 pd) (hc : clP 235 ((234, 0) :: pd)) (hz : zrF 235 I R) (hQ : clP 238 pd → Q none (KP 238 pd, I, R)) : FX0_init [.ref 234] (KP 235 ((234, 0) :: pd), I, R) Q := by
  have pO : ∀ m t, 234 < m → pdO m ((234, t) :: pd) := fun m t hm => pdO_cons (pdO_up hp (by omega)) hm
  refine ⟨rfl, ?_⟩
  show PX0_init 235 Q [some (.ref 234)] [] (0, 0) (KP 235 ((234, 0) :: pd), I, R)
  unfold PX0_init
  refine ⟨show 0 ≤ 4 by decide, ?_⟩
  have y0 := k_all (a := 235) (by decide +kernel)
  refine st_nar (m := 235) (N := 6) (by decide) (by decide) (by decide) (pO _ _ (by decide)) hc (rl_B (by decide)) (zrF_up hz (by decide)) (by decide +kernel) y0 (by decide) (by decide) ?_
  have x0 := clP_row (m := 235) (pO 235 0 (by decide)) hc y0
  have p1 : (∀ i, i < 0 → 0 ≤ i → K0.2.2 234 i = none) ∧ K0.2.2 234 0 = some 235 := by decide +kernel
  refine st_prS (a := 234) (b := 235) (j := 0) (t := 0) (by decide) (by decide +kernel) (by decide) p1.1 p1.2 ?_
  have x1 := clP_setS x0 (show 234 < 236 by decide) (show 235 < 236 by decide) (by decide) p1.1 p1.2
  have y2 := k_all (a := 236) (by decide +kernel)
  refine st_nar (m := 236) (N := 6) (by decide) (by decide) (by decide) (pO _ _ (by decide)) x1 (rl_B (by decide)) (zrF_up hz (by decide)) (by decide +kernel) y2 (by decide) (by decide) ?_
  have x2 := clP_row (m := 236) (pO 236 1 (by decide)) x1 y2
  have p3 : (∀ i, i < 1 → 1 ≤ i → K0.2.2 234 i = none) ∧ K0.2.2 234 1 = some 236 := by decide +kernel
  refine st_prS (a := 234) (b := 236) (j := 1) (t := 1) (by decide) (by decide +kernel) (by decide) p3.1 p3.2 ?_
  have x3 := clP_setS x2 (show 234 < 237 by decide) (show 236 < 237 by decide) (by decide) p3.1 p3.2
  have y4 := k_all (a := 237) (by decide +kernel)
  refine st_nar (m := 237) (N := 24) (by decide) (by decide) (by decide) (pO _ _ (by decide)) x3 (rl_B (by decide)) (zrF_up hz (by decide)) (by decide +kernel) y4 (by decide) (by decide) ?_
  have x4 := clP_row (m := 237) (pO 237 2 (by decide)) x3 y4
  have p5 : (∀ i, i < 2 → 2 ≤ i → K0.2.2 234 i = none) ∧ K0.2.2 234 2 = some 237 := by decide +kernel
  refine st_prS (a := 234) (b := 237) (j := 2) (t := 2) (by decide) (by decide +kernel) (by decide) p5.1 p5.2 ?_
  have x5 := clP_setS x4 (show 234 < 238 by decide) (show 237 < 238 by decide) (by decide) p5.1 p5.2
  have dn : ∀ j, j < 40 → 3 ≤ j → K0.2.2 234 j = none := by decide +kernel
  exact st_rv (hp _ (Nat.le_refl _)) dn (hQ (clP_done (hp _ (Nat.le_refl _)) dn x5))
theorem i_Times {I : Nat → Nat → Int32} {R : RT} {pd : List (Nat × Nat)} {Q : Option Value → az_M → Prop} (hp : pdO 238 pd) (hc : clP 239 ((238, 0) :: pd)) (hz : zrF 239 I R) (hQ : clP 254 pd → Q none (KP 254 pd, I, R)) : FX9_init [.ref 238] (KP 239 ((238, 0) :: pd), I, R) Q := by
  have pO : ∀ m t, 238 < m → pdO m ((238, t) :: pd) := fun m t hm => pdO_cons (pdO_up hp (by omega)) hm
  refine ⟨rfl, ?_⟩
  show PX9_init 239 Q [some (.ref 238)] [] (0, 0) (KP 239 ((238, 0) :: pd), I, R)
  unfold PX9_init
  refine ⟨show 0 ≤ 4 by decide, ?_⟩
  have y0 := k_all (a := 239) (by decide +kernel)
  refine st_nar (m := 239) (N := 24) (by decide) (by decide) (by decide) (pO _ _ (by decide)) hc (rl_B (by decide)) (zrF_up hz (by decide)) (by decide +kernel) y0 (by decide) (by decide) ?_
  have x0 := clP_row (m := 239) (pO 239 0 (by decide)) hc y0
  have p1 : (∀ i, i < 0 → 0 ≤ i → K0.2.2 238 i = none) ∧ K0.2.2 238 0 = some 239 := by decide +kernel
  refine st_prS (a := 238) (b := 239) (j := 0) (t := 0) (by decide) (by decide +kernel) (by decide) p1.1 p1.2 ?_
  have x1 := clP_setS x0 (show 238 < 240 by decide) (show 239 < 240 by decide) (by decide) p1.1 p1.2
  have y2 := k_tab (a := 240) (N := 6) (by decide) (by decide +kernel)
  have r2 : ∀ i, i < 6 → ∀ j, j < 40 → K0.2.2 (240 + 1 + i) j = none := by decide +kernel
  refine st_mna (m := 240) (w := 24) (N := 6) (by decide) (by decide) (by decide) (by decide) (pO _ _ (by decide)) x1 (rl_B (by decide)) (zrF_up hz (by decide)) (by decide +kernel) (by decide +kernel) y2 (fun i j hi => k_all (r2 i hi) j) (by decide) (by decide) ?_
  have x2 := clP_tab (m := 240) (N := 6) (pO 240 1 (by decide)) x1 y2 (fun i j hi => k_all (r2 i hi) j)
  have p3 : (∀ i, i < 1 → 1 ≤ i → K0.2.2 238 i = none) ∧ K0.2.2 238 1 = some 240 := by decide +kernel
  refine st_prS (a := 238) (b := 240) (j := 1) (t := 1) (by decide) (by decide +kernel) (by decide) p3.1 p3.2 ?_
  have x3 := clP_setS x2 (show 238 < 247 by decide) (show 240 < 247 by decide) (by decide) p3.1 p3.2
  have y4 := k_tab (a := 247) (N := 6) (by decide) (by decide +kernel)
  have r4 : ∀ i, i < 6 → ∀ j, j < 40 → K0.2.2 (247 + 1 + i) j = none := by decide +kernel
  refine st_mna (m := 247) (w := 24) (N := 6) (by decide) (by decide) (by decide) (by decide) (pO _ _ (by decide)) x3 (rl_B (by decide)) (zrF_up hz (by decide)) (by decide +kernel) (by decide +kernel) y4 (fun i j hi => k_all (r4 i hi) j) (by decide) (by decide) ?_
  have x4 := clP_tab (m := 247) (N := 6) (pO 247 2 (by decide)) x3 y4 (fun i j hi => k_all (r4 i hi) j)
  have p5 : (∀ i, i < 2 → 2 ≤ i → K0.2.2 238 i = none) ∧ K0.2.2 238 2 = some 247 := by decide +kernel
  refine st_prS (a := 238) (b := 247) (j := 2) (t := 2) (by decide) (by decide +kernel) (by decide) p5.1 p5.2 ?_
  have x5 := clP_setS x4 (show 238 < 254 by decide) (show 247 < 254 by decide) (by decide) p5.1 p5.2
  have dn : ∀ j, j < 40 → 3 ≤ j → K0.2.2 238 j = none := by decide +kernel
  exact st_rv (hp _ (Nat.le_refl _)) dn (hQ (clP_done (hp _ (Nat.le_refl _)) dn x5))
theorem i_Grid {I : Nat → Nat → Int32} {R : RT} {pd : List (Nat × Nat)} {Q : Option Value → az_M → Prop} (hp : pdO 254 pd) (hc : clP 255 ((254, 0) :: pd)) (hz : zrF 255 I R) (hQ : clP 290 pd → Q none (KP 290 pd, I, R)) : FX1_init [.ref 254] (KP 255 ((254, 0) :: pd), I, R) Q := by
  have pO : ∀ m t, 254 < m → pdO m ((254, t) :: pd) := fun m t hm => pdO_cons (pdO_up hp (by omega)) hm
  refine ⟨rfl, ?_⟩
  show PX1_init 255 Q [some (.ref 254)] [] (0, 0) (KP 255 ((254, 0) :: pd), I, R)
  unfold PX1_init
  refine ⟨show 0 ≤ 4 by decide, ?_⟩
  have y0 := k_tab (a := 255) (N := 4) (by decide) (by decide +kernel)
  have r0 : ∀ i, i < 4 → ∀ j, j < 40 → K0.2.2 (255 + 1 + i) j = none := by decide +kernel
  refine st_mna (m := 255) (w := 24) (N := 4) (by decide) (by decide) (by decide) (by decide) (pO _ _ (by decide)) hc (rl_B (by decide)) (zrF_up hz (by decide)) (by decide +kernel) (by decide +kernel) y0 (fun i j hi => k_all (r0 i hi) j) (by decide) (by decide) ?_
  have x0 := clP_tab (m := 255) (N := 4) (pO 255 0 (by decide)) hc y0 (fun i j hi => k_all (r0 i hi) j)
  have p1 : (∀ i, i < 0 → 0 ≤ i → K0.2.2 254 i = none) ∧ K0.2.2 254 0 = some 255 := by decide +kernel
  refine st_prS (a := 254) (b := 255) (j := 0) (t := 0) (by decide) (by decide +kernel) (by decide) p1.1 p1.2 ?_
  have x1 := clP_setS x0 (show 254 < 260 by decide) (show 255 < 260 by decide) (by decide) p1.1 p1.2
  have y2 := k_tab (a := 260) (N := 4) (by decide) (by decide +kernel)
  have r2 : ∀ i, i < 4 → ∀ j, j < 40 → K0.2.2 (260 + 1 + i) j = none := by decide +kernel
  refine st_mna (m := 260) (w := 24) (N := 4) (by decide) (by decide) (by decide) (by decide) (pO _ _ (by decide)) x1 (rl_B (by decide)) (zrF_up hz (by decide)) (by decide +kernel) (by decide +kernel) y2 (fun i j hi => k_all (r2 i hi) j) (by decide) (by decide) ?_
  have x2 := clP_tab (m := 260) (N := 4) (pO 260 1 (by decide)) x1 y2 (fun i j hi => k_all (r2 i hi) j)
  have p3 : (∀ i, i < 1 → 1 ≤ i → K0.2.2 254 i = none) ∧ K0.2.2 254 1 = some 260 := by decide +kernel
  refine st_prS (a := 254) (b := 260) (j := 1) (t := 1) (by decide) (by decide +kernel) (by decide) p3.1 p3.2 ?_
  have x3 := clP_setS x2 (show 254 < 265 by decide) (show 260 < 265 by decide) (by decide) p3.1 p3.2
  have y4 := k_tab (a := 265) (N := 24) (by decide) (by decide +kernel)
  have r4 : ∀ i, i < 24 → ∀ j, j < 40 → K0.2.2 (265 + 1 + i) j = none := by decide +kernel
  refine st_mna (m := 265) (w := 24) (N := 24) (by decide) (by decide) (by decide) (by decide) (pO _ _ (by decide)) x3 (rl_B (by decide)) (zrF_up hz (by decide)) (by decide +kernel) (by decide +kernel) y4 (fun i j hi => k_all (r4 i hi) j) (by decide) (by decide) ?_
  have x4 := clP_tab (m := 265) (N := 24) (pO 265 2 (by decide)) x3 y4 (fun i j hi => k_all (r4 i hi) j)
  have p5 : (∀ i, i < 2 → 2 ≤ i → K0.2.2 254 i = none) ∧ K0.2.2 254 2 = some 265 := by decide +kernel
  refine st_prS (a := 254) (b := 265) (j := 2) (t := 2) (by decide) (by decide +kernel) (by decide) p5.1 p5.2 ?_
  have x5 := clP_setS x4 (show 254 < 290 by decide) (show 265 < 290 by decide) (by decide) p5.1 p5.2
  have dn : ∀ j, j < 40 → 3 ≤ j → K0.2.2 254 j = none := by decide +kernel
  exact st_rv (hp _ (Nat.le_refl _)) dn (hQ (clP_done (hp _ (Nat.le_refl _)) dn x5))
theorem i_Violations {I : Nat → Nat → Int32} {R : RT} {pd : List (Nat × Nat)} {Q : Option Value → az_M → Prop} (hp : pdO 340 pd) (hc : clP 341 ((340, 0) :: pd)) (hz : zrF 341 I R) (hQ : clP 345 pd → Q none (KP 345 pd, (az_up I 340 4 (nI 0)), R)) : FX10_init [.ref 340] (KP 341 ((340, 0) :: pd), I, R) Q := by
  have pO : ∀ m t, 340 < m → pdO m ((340, t) :: pd) := fun m t hm => pdO_cons (pdO_up hp (by omega)) hm
  refine ⟨rfl, ?_⟩
  show PX10_init 341 Q [some (.ref 340)] [] (0, 0) (KP 341 ((340, 0) :: pd), I, R)
  unfold PX10_init
  refine ⟨show 0 ≤ 4 by decide, ?_⟩
  have y0 := k_all (a := 341) (by decide +kernel)
  refine st_nar (m := 341) (N := 216) (by decide) (by decide) (by decide) (pO _ _ (by decide)) hc (rl_B (by decide)) (zrF_up hz (by decide)) (by decide +kernel) y0 (by decide) (by decide) ?_
  have x0 := clP_row (m := 341) (pO 341 0 (by decide)) hc y0
  have p1 : (∀ i, i < 0 → 0 ≤ i → K0.2.2 340 i = none) ∧ K0.2.2 340 0 = some 341 := by decide +kernel
  refine st_prS (a := 340) (b := 341) (j := 0) (t := 0) (by decide) (by decide +kernel) (by decide) p1.1 p1.2 ?_
  have x1 := clP_setS x0 (show 340 < 342 by decide) (show 341 < 342 by decide) (by decide) p1.1 p1.2
  have y2 := k_all (a := 342) (by decide +kernel)
  refine st_nar (m := 342) (N := 216) (by decide) (by decide) (by decide) (pO _ _ (by decide)) x1 (rl_B (by decide)) (zrF_up hz (by decide)) (by decide +kernel) y2 (by decide) (by decide) ?_
  have x2 := clP_row (m := 342) (pO 342 1 (by decide)) x1 y2
  have p3 : (∀ i, i < 1 → 1 ≤ i → K0.2.2 340 i = none) ∧ K0.2.2 340 1 = some 342 := by decide +kernel
  refine st_prS (a := 340) (b := 342) (j := 1) (t := 1) (by decide) (by decide +kernel) (by decide) p3.1 p3.2 ?_
  have x3 := clP_setS x2 (show 340 < 343 by decide) (show 342 < 343 by decide) (by decide) p3.1 p3.2
  have y4 := k_all (a := 343) (by decide +kernel)
  refine st_nar (m := 343) (N := 216) (by decide) (by decide) (by decide) (pO _ _ (by decide)) x3 (rl_B (by decide)) (zrF_up hz (by decide)) (by decide +kernel) y4 (by decide) (by decide) ?_
  have x4 := clP_row (m := 343) (pO 343 2 (by decide)) x3 y4
  have p5 : (∀ i, i < 2 → 2 ≤ i → K0.2.2 340 i = none) ∧ K0.2.2 340 2 = some 343 := by decide +kernel
  refine st_prS (a := 340) (b := 343) (j := 2) (t := 2) (by decide) (by decide +kernel) (by decide) p5.1 p5.2 ?_
  have x5 := clP_setS x4 (show 340 < 344 by decide) (show 343 < 344 by decide) (by decide) p5.1 p5.2
  have y6 := k_all (a := 344) (by decide +kernel)
  refine st_nar (m := 344) (N := 7) (by decide) (by decide) (by decide) (pO _ _ (by decide)) x5 (rl_B (by decide)) (zrF_up hz (by decide)) (by decide +kernel) y6 (by decide) (by decide) ?_
  have x6 := clP_row (m := 344) (pO 344 3 (by decide)) x5 y6
  have p7 : (∀ i, i < 3 → 3 ≤ i → K0.2.2 340 i = none) ∧ K0.2.2 340 3 = some 344 := by decide +kernel
  refine st_prS (a := 340) (b := 344) (j := 3) (t := 3) (by decide) (by decide +kernel) (by decide) p7.1 p7.2 ?_
  have x7 := clP_setS x6 (show 340 < 345 by decide) (show 344 < 345 by decide) (by decide) p7.1 p7.2
  refine ⟨show 340 < 345 by decide, show (K0.2.1 340).1 = 11 by decide +kernel, ?_⟩
  have z8 : zrF 345 (az_up I 340 4 (nI 0)) R := zrF_w (zrF_up hz (by decide)) (by decide)
  have dn : ∀ j, j < 40 → 4 ≤ j → K0.2.2 340 j = none := by decide +kernel
  exact st_rv (hp _ (Nat.le_refl _)) dn (hQ (clP_done (hp _ (Nat.le_refl _)) dn x7))
theorem i_Merit {I : Nat → Nat → Int32} {R : RT} {pd : List (Nat × Nat)} {Q : Option Value → az_M → Prop} (hp : pdO 345 pd) (hc : clP 346 ((345, 0) :: pd)) (hz : zrF 346 I R) (hQ : clP 348 pd → Q none (KP 348 pd, I, R)) : FX3_init [.ref 345] (KP 346 ((345, 0) :: pd), I, R) Q := by
  have pO : ∀ m t, 345 < m → pdO m ((345, t) :: pd) := fun m t hm => pdO_cons (pdO_up hp (by omega)) hm
  refine ⟨rfl, ?_⟩
  show PX3_init 346 Q [some (.ref 345)] [] (0, 0) (KP 346 ((345, 0) :: pd), I, R)
  unfold PX3_init
  refine ⟨show 0 ≤ 4 by decide, ?_⟩
  have y0 := k_all (a := 346) (by decide +kernel)
  refine st_nar (m := 346) (N := 6) (by decide) (by decide) (by decide) (pO _ _ (by decide)) hc (rl_B (by decide)) (zrF_up hz (by decide)) (by decide +kernel) y0 (by decide) (by decide) ?_
  have x0 := clP_row (m := 346) (pO 346 0 (by decide)) hc y0
  have p1 : (∀ i, i < 0 → 0 ≤ i → K0.2.2 345 i = none) ∧ K0.2.2 345 0 = some 346 := by decide +kernel
  refine st_prS (a := 345) (b := 346) (j := 0) (t := 0) (by decide) (by decide +kernel) (by decide) p1.1 p1.2 ?_
  have x1 := clP_setS x0 (show 345 < 347 by decide) (show 346 < 347 by decide) (by decide) p1.1 p1.2
  have y2 := k_all (a := 347) (by decide +kernel)
  refine st_nar (m := 347) (N := 6) (by decide) (by decide) (by decide) (pO _ _ (by decide)) x1 (rl_B (by decide)) (zrF_up hz (by decide)) (by decide +kernel) y2 (by decide) (by decide) ?_
  have x2 := clP_row (m := 347) (pO 347 1 (by decide)) x1 y2
  have p3 : (∀ i, i < 1 → 1 ≤ i → K0.2.2 345 i = none) ∧ K0.2.2 345 1 = some 347 := by decide +kernel
  refine st_prS (a := 345) (b := 347) (j := 1) (t := 1) (by decide) (by decide +kernel) (by decide) p3.1 p3.2 ?_
  have x3 := clP_setS x2 (show 345 < 348 by decide) (show 347 < 348 by decide) (by decide) p3.1 p3.2
  have dn : ∀ j, j < 40 → 2 ≤ j → K0.2.2 345 j = none := by decide +kernel
  exact st_rv (hp _ (Nat.le_refl _)) dn (hQ (clP_done (hp _ (Nat.le_refl _)) dn x3))
theorem i_Search {I : Nat → Nat → Int32} {R : RT} {pd : List (Nat × Nat)} {Q : Option Value → az_M → Prop} (hp : pdO 348 pd) (hc : clP 349 ((348, 0) :: pd)) (hz : zrF 349 I R) (hQ : clP 352 pd → Q none (KP 352 pd, (az_up (az_up (az_up I 348 3 (nI 0)) 348 4 (nI 0)) 348 5 (nI 0)), R)) : FX7_init [.ref 348] (KP 349 ((348, 0) :: pd), I, R) Q := by
  have pO : ∀ m t, 348 < m → pdO m ((348, t) :: pd) := fun m t hm => pdO_cons (pdO_up hp (by omega)) hm
  refine ⟨rfl, ?_⟩
  show PX7_init 349 Q [some (.ref 348)] [] (0, 0) (KP 349 ((348, 0) :: pd), I, R)
  unfold PX7_init
  refine ⟨show 0 ≤ 4 by decide, ?_⟩
  have y0 := k_all (a := 349) (by decide +kernel)
  refine st_nar (m := 349) (N := 24) (by decide) (by decide) (by decide) (pO _ _ (by decide)) hc (rl_B (by decide)) (zrF_up hz (by decide)) (by decide +kernel) y0 (by decide) (by decide) ?_
  have x0 := clP_row (m := 349) (pO 349 0 (by decide)) hc y0
  have p1 : (∀ i, i < 0 → 0 ≤ i → K0.2.2 348 i = none) ∧ K0.2.2 348 0 = some 349 := by decide +kernel
  refine st_prS (a := 348) (b := 349) (j := 0) (t := 0) (by decide) (by decide +kernel) (by decide) p1.1 p1.2 ?_
  have x1 := clP_setS x0 (show 348 < 350 by decide) (show 349 < 350 by decide) (by decide) p1.1 p1.2
  have y2 := k_all (a := 350) (by decide +kernel)
  refine st_nar (m := 350) (N := 24) (by decide) (by decide) (by decide) (pO _ _ (by decide)) x1 (rl_B (by decide)) (zrF_up hz (by decide)) (by decide +kernel) y2 (by decide) (by decide) ?_
  have x2 := clP_row (m := 350) (pO 350 1 (by decide)) x1 y2
  have p3 : (∀ i, i < 1 → 1 ≤ i → K0.2.2 348 i = none) ∧ K0.2.2 348 1 = some 350 := by decide +kernel
  refine st_prS (a := 348) (b := 350) (j := 1) (t := 1) (by decide) (by decide +kernel) (by decide) p3.1 p3.2 ?_
  have x3 := clP_setS x2 (show 348 < 351 by decide) (show 350 < 351 by decide) (by decide) p3.1 p3.2
  have y4 := k_all (a := 351) (by decide +kernel)
  refine st_nar (m := 351) (N := 24) (by decide) (by decide) (by decide) (pO _ _ (by decide)) x3 (rl_B (by decide)) (zrF_up hz (by decide)) (by decide +kernel) y4 (by decide) (by decide) ?_
  have x4 := clP_row (m := 351) (pO 351 2 (by decide)) x3 y4
  have p5 : (∀ i, i < 2 → 2 ≤ i → K0.2.2 348 i = none) ∧ K0.2.2 348 2 = some 351 := by decide +kernel
  refine st_prS (a := 348) (b := 351) (j := 2) (t := 2) (by decide) (by decide +kernel) (by decide) p5.1 p5.2 ?_
  have x5 := clP_setS x4 (show 348 < 352 by decide) (show 351 < 352 by decide) (by decide) p5.1 p5.2
  refine ⟨show 348 < 352 by decide, show (K0.2.1 348).1 = 8 by decide +kernel, ?_⟩
  have z6 : zrF 352 (az_up I 348 3 (nI 0)) R := zrF_w (zrF_up hz (by decide)) (by decide)
  refine ⟨show 348 < 352 by decide, show (K0.2.1 348).1 = 8 by decide +kernel, ?_⟩
  have z7 : zrF 352 (az_up (az_up I 348 3 (nI 0)) 348 4 (nI 0)) R := zrF_w (zrF_up z6 (by decide)) (by decide)
  refine ⟨show 348 < 352 by decide, show (K0.2.1 348).1 = 8 by decide +kernel, by first | exact Or.inl nI_0 | exact Or.inr rfl | decide, ?_⟩
  have z8 : zrF 352 (az_up (az_up (az_up I 348 3 (nI 0)) 348 4 (nI 0)) 348 5 (nI 0)) R := zrF_w (zrF_up z7 (by decide)) (by decide)
  have dn : ∀ j, j < 40 → 3 ≤ j → K0.2.2 348 j = none := by decide +kernel
  exact st_rv (hp _ (Nat.le_refl _)) dn (hQ (clP_done (hp _ (Nat.le_refl _)) dn x5))
theorem i_PlanText {I : Nat → Nat → Int32} {R : RT} {pd : List (Nat × Nat)} {Q : Option Value → az_M → Prop} (hp : pdO 352 pd) (hc : clP 353 ((352, 0) :: pd)) (hz : zrF 353 I R) (hQ : clP 354 pd → Q none (KP 354 pd, (az_up (az_up I 352 1 (nI 0)) 352 2 (-1)), R)) : FX5_init [.ref 352] (KP 353 ((352, 0) :: pd), I, R) Q := by
  have pO : ∀ m t, 352 < m → pdO m ((352, t) :: pd) := fun m t hm => pdO_cons (pdO_up hp (by omega)) hm
  refine ⟨rfl, ?_⟩
  show PX5_init 353 Q [some (.ref 352)] [] (0, 0) (KP 353 ((352, 0) :: pd), I, R)
  unfold PX5_init
  refine ⟨show 0 ≤ 4 by decide, ?_⟩
  have y0 := k_all (a := 353) (by decide +kernel)
  refine st_nar (m := 353) (N := 100) (by decide) (by decide) (by decide) (pO _ _ (by decide)) hc (rl_B (by decide)) (zrF_up hz (by decide)) (by decide +kernel) y0 (by decide) (by decide) ?_
  have x0 := clP_row (m := 353) (pO 353 0 (by decide)) hc y0
  have p1 : (∀ i, i < 0 → 0 ≤ i → K0.2.2 352 i = none) ∧ K0.2.2 352 0 = some 353 := by decide +kernel
  refine st_prS (a := 352) (b := 353) (j := 0) (t := 0) (by decide) (by decide +kernel) (by decide) p1.1 p1.2 ?_
  have x1 := clP_setS x0 (show 352 < 354 by decide) (show 353 < 354 by decide) (by decide) p1.1 p1.2
  refine ⟨show 352 < 354 by decide, show (K0.2.1 352).1 = 7 by decide +kernel, ?_⟩
  have z2 : zrF 354 (az_up I 352 1 (nI 0)) R := zrF_w (zrF_up hz (by decide)) (by decide)
  refine ⟨show 352 < 354 by decide, show (K0.2.1 352).1 = 7 by decide +kernel, ?_⟩
  have z3 : zrF 354 (az_up (az_up I 352 1 (nI 0)) 352 2 (-1)) R := zrF_w (zrF_up z2 (by decide)) (by decide)
  have dn : ∀ j, j < 40 → 1 ≤ j → K0.2.2 352 j = none := by decide +kernel
  exact st_rv (hp _ (Nat.le_refl _)) dn (hQ (clP_done (hp _ (Nat.le_refl _)) dn x1))
