/-! by program (wip/whole/gen_ipure.py): the model's constructor -/
set_option maxRecDepth 100000
set_option maxHeartbeats 4000000
theorem rfP_pd {m a t j : Nat} {pd : List (Nat × Nat)} (h : a < m) (hj : j < t) : rfP m ((a, t) :: pd) a j = K0.2.2 a j := by
  unfold rfP
  rw [if_pos h, lk_s]
  exact if_pos hj
theorem i_UnitCommitmentModel {I : Nat → Nat → Int32} {R : RT} {pd : List (Nat × Nat)} {Q : Option Value → az_M → Prop} (hp : pdO 354 pd) (hc : clP 355 ((354, 0) :: pd)) (hz : zrF 355 I R) (hQ : ∀ I', CM (S0 6 1) (I' 355) → I' 354 4 = nI 0 → I' 354 7 = bI false → I' 354 29 = -1 → (∀ q j, q ≠ 355 → ¬ (q = 354 ∧ (j = 4 ∨ j = 7 ∨ j = 29)) → I' q j = I q j) → clP 378 pd → Q none (KP 378 pd, I', R)) : FX12_init [.ref 354] (KP 355 ((354, 0) :: pd), I, R) Q := by
  have pO : ∀ m t, 354 < m → pdO m ((354, t) :: pd) := fun m t hm => pdO_cons (pdO_up hp (by omega)) hm
  refine ⟨rfl, ?_⟩
  show PX12_init 355 Q [some (.ref 354)] [] (0, 0) (KP 355 ((354, 0) :: pd), I, R)
  unfold PX12_init
  refine ⟨show 0 ≤ 4 by decide, ?_⟩
  have y0 := k_all (a := 355) (by decide +kernel)
  refine st_nar (m := 355) (N := 235) (by decide) (by decide) (by decide) (pO _ _ (by decide)) hc (rl_B (by decide)) (zrF_up hz (by decide)) (by decide +kernel) y0 (by decide) (by decide) ?_
  have x0 := clP_row (m := 355) (pO 355 0 (by decide)) hc y0
  have p1 : (∀ i, i < 0 → 0 ≤ i → K0.2.2 354 i = none) ∧ K0.2.2 354 0 = some 355 := by decide +kernel
  refine st_prS (a := 354) (b := 355) (j := 0) (t := 0) (by decide) (by decide +kernel) (by decide) p1.1 p1.2 ?_
  have x1 := clP_setS x0 (show 354 < 356 by decide) (show 355 < 356 by decide) (by decide) p1.1 p1.2
  have y2 := k_all (a := 356) (by decide +kernel)
  refine st_nar (m := 356) (N := 235) (by decide) (by decide) (by decide) (pO _ _ (by decide)) x1 (rl_B (by decide)) (zrF_up hz (by decide)) (by decide +kernel) y2 (by decide) (by decide) ?_
  have x2 := clP_row (m := 356) (pO 356 1 (by decide)) x1 y2
  have p3 : (∀ i, i < 1 → 1 ≤ i → K0.2.2 354 i = none) ∧ K0.2.2 354 1 = some 356 := by decide +kernel
  refine st_prS (a := 354) (b := 356) (j := 1) (t := 1) (by decide) (by decide +kernel) (by decide) p3.1 p3.2 ?_
  have x3 := clP_setS x2 (show 354 < 357 by decide) (show 356 < 357 by decide) (by decide) p3.1 p3.2
  have y4 := k_all (a := 357) (by decide +kernel)
  refine st_nar (m := 357) (N := 1880) (by decide) (by decide) (by decide) (pO _ _ (by decide)) x3 (rl_B (by decide)) (zrF_up hz (by decide)) (by decide +kernel) y4 (by decide) (by decide) ?_
  have x4 := clP_row (m := 357) (pO 357 2 (by decide)) x3 y4
  have p5 : (∀ i, i < 3 → 2 ≤ i → K0.2.2 354 i = none) ∧ K0.2.2 354 3 = some 357 := by decide +kernel
  refine st_prS (a := 354) (b := 357) (j := 3) (t := 2) (by decide) (by decide +kernel) (by decide) p5.1 p5.2 ?_
  have x5 := clP_setS x4 (show 354 < 358 by decide) (show 357 < 358 by decide) (by decide) p5.1 p5.2
  have y6 := k_all (a := 358) (by decide +kernel)
  refine st_nar (m := 358) (N := 6) (by decide) (by decide) (by decide) (pO _ _ (by decide)) x5 (rl_B (by decide)) (zrF_up hz (by decide)) (by decide +kernel) y6 (by decide) (by decide) ?_
  have x6 := clP_row (m := 358) (pO 358 4 (by decide)) x5 y6
  have p7 : (∀ i, i < 6 → 4 ≤ i → K0.2.2 354 i = none) ∧ K0.2.2 354 6 = some 358 := by decide +kernel
  refine st_prS (a := 354) (b := 358) (j := 6) (t := 4) (by decide) (by decide +kernel) (by decide) p7.1 p7.2 ?_
  have x7 := clP_setS x6 (show 354 < 359 by decide) (show 358 < 359 by decide) (by decide) p7.1 p7.2
  have y8 := k_all (a := 359) (by decide +kernel)
  refine st_nar (m := 359) (N := 144) (by decide) (by decide) (by decide) (pO _ _ (by decide)) x7 (rl_B (by decide)) (zrF_up hz (by decide)) (by decide +kernel) y8 (by decide) (by decide) ?_
  have x8 := clP_row (m := 359) (pO 359 7 (by decide)) x7 y8
  have p9 : (∀ i, i < 8 → 7 ≤ i → K0.2.2 354 i = none) ∧ K0.2.2 354 8 = some 359 := by decide +kernel
  refine st_prS (a := 354) (b := 359) (j := 8) (t := 7) (by decide) (by decide +kernel) (by decide) p9.1 p9.2 ?_
  have x9 := clP_setS x8 (show 354 < 360 by decide) (show 359 < 360 by decide) (by decide) p9.1 p9.2
  have y10 := k_all (a := 360) (by decide +kernel)
  refine st_nar (m := 360) (N := 144) (by decide) (by decide) (by decide) (pO _ _ (by decide)) x9 (rl_B (by decide)) (zrF_up hz (by decide)) (by decide +kernel) y10 (by decide) (by decide) ?_
  have x10 := clP_row (m := 360) (pO 360 9 (by decide)) x9 y10
  have p11 : (∀ i, i < 9 → 9 ≤ i → K0.2.2 354 i = none) ∧ K0.2.2 354 9 = some 360 := by decide +kernel
  refine st_prS (a := 354) (b := 360) (j := 9) (t := 9) (by decide) (by decide +kernel) (by decide) p11.1 p11.2 ?_
  have x11 := clP_setS x10 (show 354 < 361 by decide) (show 360 < 361 by decide) (by decide) p11.1 p11.2
  have y12 := k_all (a := 361) (by decide +kernel)
  refine st_nar (m := 361) (N := 144) (by decide) (by decide) (by decide) (pO _ _ (by decide)) x11 (rl_B (by decide)) (zrF_up hz (by decide)) (by decide +kernel) y12 (by decide) (by decide) ?_
  have x12 := clP_row (m := 361) (pO 361 10 (by decide)) x11 y12
  have p13 : (∀ i, i < 10 → 10 ≤ i → K0.2.2 354 i = none) ∧ K0.2.2 354 10 = some 361 := by decide +kernel
  refine st_prS (a := 354) (b := 361) (j := 10) (t := 10) (by decide) (by decide +kernel) (by decide) p13.1 p13.2 ?_
  have x13 := clP_setS x12 (show 354 < 362 by decide) (show 361 < 362 by decide) (by decide) p13.1 p13.2
  have y14 := k_all (a := 362) (by decide +kernel)
  refine st_nar (m := 362) (N := 144) (by decide) (by decide) (by decide) (pO _ _ (by decide)) x13 (rl_B (by decide)) (zrF_up hz (by decide)) (by decide +kernel) y14 (by decide) (by decide) ?_
  have x14 := clP_row (m := 362) (pO 362 11 (by decide)) x13 y14
  have p15 : (∀ i, i < 11 → 11 ≤ i → K0.2.2 354 i = none) ∧ K0.2.2 354 11 = some 362 := by decide +kernel
  refine st_prS (a := 354) (b := 362) (j := 11) (t := 11) (by decide) (by decide +kernel) (by decide) p15.1 p15.2 ?_
  have x15 := clP_setS x14 (show 354 < 363 by decide) (show 362 < 363 by decide) (by decide) p15.1 p15.2
  have y16 := k_all (a := 363) (by decide +kernel)
  refine st_nar (m := 363) (N := 144) (by decide) (by decide) (by decide) (pO _ _ (by decide)) x15 (rl_B (by decide)) (zrF_up hz (by decide)) (by decide +kernel) y16 (by decide) (by decide) ?_
  have x16 := clP_row (m := 363) (pO 363 12 (by decide)) x15 y16
  have p17 : (∀ i, i < 12 → 12 ≤ i → K0.2.2 354 i = none) ∧ K0.2.2 354 12 = some 363 := by decide +kernel
  refine st_prS (a := 354) (b := 363) (j := 12) (t := 12) (by decide) (by decide +kernel) (by decide) p17.1 p17.2 ?_
  have x17 := clP_setS x16 (show 354 < 364 by decide) (show 363 < 364 by decide) (by decide) p17.1 p17.2
  have y18 := k_all (a := 364) (by decide +kernel)
  refine st_nar (m := 364) (N := 144) (by decide) (by decide) (by decide) (pO _ _ (by decide)) x17 (rl_B (by decide)) (zrF_up hz (by decide)) (by decide +kernel) y18 (by decide) (by decide) ?_
  have x18 := clP_row (m := 364) (pO 364 13 (by decide)) x17 y18
  have p19 : (∀ i, i < 13 → 13 ≤ i → K0.2.2 354 i = none) ∧ K0.2.2 354 13 = some 364 := by decide +kernel
  refine st_prS (a := 354) (b := 364) (j := 13) (t := 13) (by decide) (by decide +kernel) (by decide) p19.1 p19.2 ?_
  have x19 := clP_setS x18 (show 354 < 365 by decide) (show 364 < 365 by decide) (by decide) p19.1 p19.2
  have y20 := k_all (a := 365) (by decide +kernel)
  refine st_nar (m := 365) (N := 144) (by decide) (by decide) (by decide) (pO _ _ (by decide)) x19 (rl_B (by decide)) (zrF_up hz (by decide)) (by decide +kernel) y20 (by decide) (by decide) ?_
  have x20 := clP_row (m := 365) (pO 365 14 (by decide)) x19 y20
  have p21 : (∀ i, i < 14 → 14 ≤ i → K0.2.2 354 i = none) ∧ K0.2.2 354 14 = some 365 := by decide +kernel
  refine st_prS (a := 354) (b := 365) (j := 14) (t := 14) (by decide) (by decide +kernel) (by decide) p21.1 p21.2 ?_
  have x21 := clP_setS x20 (show 354 < 366 by decide) (show 365 < 366 by decide) (by decide) p21.1 p21.2
  have y22 := k_all (a := 366) (by decide +kernel)
  refine st_nar (m := 366) (N := 144) (by decide) (by decide) (by decide) (pO _ _ (by decide)) x21 (rl_B (by decide)) (zrF_up hz (by decide)) (by decide +kernel) y22 (by decide) (by decide) ?_
  have x22 := clP_row (m := 366) (pO 366 15 (by decide)) x21 y22
  have p23 : (∀ i, i < 15 → 15 ≤ i → K0.2.2 354 i = none) ∧ K0.2.2 354 15 = some 366 := by decide +kernel
  refine st_prS (a := 354) (b := 366) (j := 15) (t := 15) (by decide) (by decide +kernel) (by decide) p23.1 p23.2 ?_
  have x23 := clP_setS x22 (show 354 < 367 by decide) (show 366 < 367 by decide) (by decide) p23.1 p23.2
  have y24 := k_all (a := 367) (by decide +kernel)
  refine st_nar (m := 367) (N := 144) (by decide) (by decide) (by decide) (pO _ _ (by decide)) x23 (rl_B (by decide)) (zrF_up hz (by decide)) (by decide +kernel) y24 (by decide) (by decide) ?_
  have x24 := clP_row (m := 367) (pO 367 16 (by decide)) x23 y24
  have p25 : (∀ i, i < 16 → 16 ≤ i → K0.2.2 354 i = none) ∧ K0.2.2 354 16 = some 367 := by decide +kernel
  refine st_prS (a := 354) (b := 367) (j := 16) (t := 16) (by decide) (by decide +kernel) (by decide) p25.1 p25.2 ?_
  have x25 := clP_setS x24 (show 354 < 368 by decide) (show 367 < 368 by decide) (by decide) p25.1 p25.2
  have y26 := k_all (a := 368) (by decide +kernel)
  refine st_nar (m := 368) (N := 576) (by decide) (by decide) (by decide) (pO _ _ (by decide)) x25 (rl_B (by decide)) (zrF_up hz (by decide)) (by decide +kernel) y26 (by decide) (by decide) ?_
  have x26 := clP_row (m := 368) (pO 368 17 (by decide)) x25 y26
  have p27 : (∀ i, i < 17 → 17 ≤ i → K0.2.2 354 i = none) ∧ K0.2.2 354 17 = some 368 := by decide +kernel
  refine st_prS (a := 354) (b := 368) (j := 17) (t := 17) (by decide) (by decide +kernel) (by decide) p27.1 p27.2 ?_
  have x27 := clP_setS x26 (show 354 < 369 by decide) (show 368 < 369 by decide) (by decide) p27.1 p27.2
  have y28 := k_all (a := 369) (by decide +kernel)
  refine st_nar (m := 369) (N := 96) (by decide) (by decide) (by decide) (pO _ _ (by decide)) x27 (rl_B (by decide)) (zrF_up hz (by decide)) (by decide +kernel) y28 (by decide) (by decide) ?_
  have x28 := clP_row (m := 369) (pO 369 18 (by decide)) x27 y28
  have p29 : (∀ i, i < 18 → 18 ≤ i → K0.2.2 354 i = none) ∧ K0.2.2 354 18 = some 369 := by decide +kernel
  refine st_prS (a := 354) (b := 369) (j := 18) (t := 18) (by decide) (by decide +kernel) (by decide) p29.1 p29.2 ?_
  have x29 := clP_setS x28 (show 354 < 370 by decide) (show 369 < 370 by decide) (by decide) p29.1 p29.2
  have y30 := k_all (a := 370) (by decide +kernel)
  refine st_nar (m := 370) (N := 96) (by decide) (by decide) (by decide) (pO _ _ (by decide)) x29 (rl_B (by decide)) (zrF_up hz (by decide)) (by decide +kernel) y30 (by decide) (by decide) ?_
  have x30 := clP_row (m := 370) (pO 370 19 (by decide)) x29 y30
  have p31 : (∀ i, i < 19 → 19 ≤ i → K0.2.2 354 i = none) ∧ K0.2.2 354 19 = some 370 := by decide +kernel
  refine st_prS (a := 354) (b := 370) (j := 19) (t := 19) (by decide) (by decide +kernel) (by decide) p31.1 p31.2 ?_
  have x31 := clP_setS x30 (show 354 < 371 by decide) (show 370 < 371 by decide) (by decide) p31.1 p31.2
  have y32 := k_all (a := 371) (by decide +kernel)
  refine st_nar (m := 371) (N := 4) (by decide) (by decide) (by decide) (pO _ _ (by decide)) x31 (rl_B (by decide)) (zrF_up hz (by decide)) (by decide +kernel) y32 (by decide) (by decide) ?_
  have x32 := clP_row (m := 371) (pO 371 20 (by decide)) x31 y32
  have p33 : (∀ i, i < 20 → 20 ≤ i → K0.2.2 354 i = none) ∧ K0.2.2 354 20 = some 371 := by decide +kernel
  refine st_prS (a := 354) (b := 371) (j := 20) (t := 20) (by decide) (by decide +kernel) (by decide) p33.1 p33.2 ?_
  have x33 := clP_setS x32 (show 354 < 372 by decide) (show 371 < 372 by decide) (by decide) p33.1 p33.2
  have y34 := k_all (a := 372) (by decide +kernel)
  refine st_nar (m := 372) (N := 6) (by decide) (by decide) (by decide) (pO _ _ (by decide)) x33 (rl_B (by decide)) (zrF_up hz (by decide)) (by decide +kernel) y34 (by decide) (by decide) ?_
  have x34 := clP_row (m := 372) (pO 372 21 (by decide)) x33 y34
  have p35 : (∀ i, i < 21 → 21 ≤ i → K0.2.2 354 i = none) ∧ K0.2.2 354 21 = some 372 := by decide +kernel
  refine st_prS (a := 354) (b := 372) (j := 21) (t := 21) (by decide) (by decide +kernel) (by decide) p35.1 p35.2 ?_
  have x35 := clP_setS x34 (show 354 < 373 by decide) (show 372 < 373 by decide) (by decide) p35.1 p35.2
  have y36 := k_all (a := 373) (by decide +kernel)
  refine st_nar (m := 373) (N := 1512) (by decide) (by decide) (by decide) (pO _ _ (by decide)) x35 (rl_B (by decide)) (zrF_up hz (by decide)) (by decide +kernel) y36 (by decide) (by decide) ?_
  have x36 := clP_row (m := 373) (pO 373 22 (by decide)) x35 y36
  have p37 : (∀ i, i < 22 → 22 ≤ i → K0.2.2 354 i = none) ∧ K0.2.2 354 22 = some 373 := by decide +kernel
  refine st_prS (a := 354) (b := 373) (j := 22) (t := 22) (by decide) (by decide +kernel) (by decide) p37.1 p37.2 ?_
  have x37 := clP_setS x36 (show 354 < 374 by decide) (show 373 < 374 by decide) (by decide) p37.1 p37.2
  have y38 := k_all (a := 374) (by decide +kernel)
  refine st_nar (m := 374) (N := 6) (by decide) (by decide) (by decide) (pO _ _ (by decide)) x37 (rl_B (by decide)) (zrF_up hz (by decide)) (by decide +kernel) y38 (by decide) (by decide) ?_
  have x38 := clP_row (m := 374) (pO 374 23 (by decide)) x37 y38
  have p39 : (∀ i, i < 24 → 23 ≤ i → K0.2.2 354 i = none) ∧ K0.2.2 354 24 = some 374 := by decide +kernel
  refine st_prS (a := 354) (b := 374) (j := 24) (t := 23) (by decide) (by decide +kernel) (by decide) p39.1 p39.2 ?_
  have x39 := clP_setS x38 (show 354 < 375 by decide) (show 374 < 375 by decide) (by decide) p39.1 p39.2
  have y40 := k_all (a := 375) (by decide +kernel)
  refine st_nar (m := 375) (N := 100) (by decide) (by decide) (by decide) (pO _ _ (by decide)) x39 (rl_B (by decide)) (zrF_up hz (by decide)) (by decide +kernel) y40 (by decide) (by decide) ?_
  have x40 := clP_row (m := 375) (pO 375 25 (by decide)) x39 y40
  have p41 : (∀ i, i < 25 → 25 ≤ i → K0.2.2 354 i = none) ∧ K0.2.2 354 25 = some 375 := by decide +kernel
  refine st_prS (a := 354) (b := 375) (j := 25) (t := 25) (by decide) (by decide +kernel) (by decide) p41.1 p41.2 ?_
  have x41 := clP_setS x40 (show 354 < 376 by decide) (show 375 < 376 by decide) (by decide) p41.1 p41.2
  refine ⟨show 354 < 376 by decide, show (K0.2.1 354).1 = 13 by decide +kernel, ?_⟩
  have z42 : zrF 376 (az_up I 354 29 (-1)) R := zrF_w (zrF_up hz (by decide)) (by decide)
  have y43 := k_all (a := 376) (by decide +kernel)
  refine st_nar (m := 376) (N := 100) (by decide) (by decide) (by decide) (pO _ _ (by decide)) x41 (rl_B (by decide)) (zrF_up z42 (by decide)) (by decide +kernel) y43 (by decide) (by decide) ?_
  have x43 := clP_row (m := 376) (pO 376 26 (by decide)) x41 y43
  have p44 : (∀ i, i < 30 → 26 ≤ i → K0.2.2 354 i = none) ∧ K0.2.2 354 30 = some 376 := by decide +kernel
  refine st_prS (a := 354) (b := 376) (j := 30) (t := 26) (by decide) (by decide +kernel) (by decide) p44.1 p44.2 ?_
  have x44 := clP_setS x43 (show 354 < 377 by decide) (show 376 < 377 by decide) (by decide) p44.1 p44.2
  have y45 := k_all (a := 377) (by decide +kernel)
  refine st_nar (m := 377) (N := 100) (by decide) (by decide) (by decide) (pO _ _ (by decide)) x44 (rl_B (by decide)) (zrF_up z42 (by decide)) (by decide +kernel) y45 (by decide) (by decide) ?_
  have x45 := clP_row (m := 377) (pO 377 31 (by decide)) x44 y45
  have p46 : (∀ i, i < 31 → 31 ≤ i → K0.2.2 354 i = none) ∧ K0.2.2 354 31 = some 377 := by decide +kernel
  refine st_prS (a := 354) (b := 377) (j := 31) (t := 31) (by decide) (by decide +kernel) (by decide) p46.1 p46.2 ?_
  have x46 := clP_setS x45 (show 354 < 378 by decide) (show 377 < 378 by decide) (by decide) p46.1 p46.2
  have dn : ∀ j, j < 40 → 32 ≤ j → K0.2.2 354 j = none := by decide +kernel
  show s_cv 2 13 FX12_start (s_rv Q) _ [.int (nI 1), .int (nI 6), .ref 354] _ (KP 378 ((354, 32) :: pd), (az_up I 354 29 (-1)), R)
  refine ⟨show 354 < 378 by decide, show (K0.2.1 354).1 = 13 by decide +kernel, show 0 ≤ 4 by decide, ?_⟩
  refine m_startK (K := KP 378 ((354, 32) :: pd)) (show 354 < 378 by decide) (show 355 < 378 by decide) k_s_354 ((rfP_pd (m := 378) (a := 354) (t := 32) (j := 0) (pd := pd) (by decide) (by decide)).trans k_f_354_0) k_s_355 (fun I2 f1 f2 f3 f4 => ?_)
  exact st_rv (hp _ (Nat.le_refl _)) dn (hQ I2 f1 f2 f3 (by rw [f4 _ _ (by omega) (by omega), upS ⟨rfl, rfl⟩]) (fun q j z1 z2 => by rw [f4 _ _ (by omega) (by omega), upN (by omega)]) (clP_done (hp _ (Nat.le_refl _)) dn x46))
