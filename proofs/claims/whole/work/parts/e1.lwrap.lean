set_option maxRecDepth 100000
/-! by program (wip/whole/gen_pcase.py): the wrappers -/
theorem up_L {R : RT} {x : Int64} : ((az_up R.1 378 0 x, R.2) : RT).1 378 0 = x := by
  show az_up R.1 378 0 x 378 0 = x
  exact az_up_s
theorem up_D {R : RT} {x : UInt64} : ((R.1, az_up R.2 379 0 x) : RT).2 379 0 = x := by
  show az_up R.2 379 0 x 379 0 = x
  exact az_up_s
theorem bd_size {A : AT} {x : Int32} {y : Int32} : (spSize A x y).1 ≤ 1 := by
  unfold spSize
  (repeat' split) <;> simp [thS, okS]
theorem v_size {I : Nat → Nat → Int32} {R : RT} {A : AT} {x : Int32} {y : Int32} {Q : Option Value → az_M → Prop} (hC : CR A I) (hQ : ∀ I' (R' : RT), CR (spSize A x y).2.2 I' → (∀ q j, 353 < q → I' q j = I q j) → ((spSize A x y).1 = 0 → R'.1 378 0 = (spSize A x y).2.1.toInt64) → Q (some (.int (nI (spSize A x y).1))) (K0, I', R')) : FL_size [.ref 0, .int x, .int y, .ref 378] (K0, I, R) Q := by
  refine ⟨rfl, ?_⟩
  unfold PL_size
  refine r_la rfl ⟨k_law.2.2.1, k_law.2.2.2.1, by decide, rfl, rfl, ?_⟩
  refine w_size hC (fun I' h1 h2 => wr_end (by decide +kernel) bd_size (fun h0 => ?_) (fun h0 => hQ I' R h1 h2 (fun z => absurd z h0)))
  refine ⟨k_law.2.2.2.2.1, by show (K0.2.1 378).1 = 23; rw [k_law.2.2.2.2.2.1], by show vp_in (nI 0) (K0.2.1 378).2; rw [k_law.2.2.2.2.2.1]; exact vp_in_nI (by decide) (by decide), ?_⟩
  have h9 := hQ I' (az_up R.1 378 0 (spSize A x y).2.1.toInt64, R.2) h1 h2 (fun _ => up_L)
  rw [h0] at h9
  exact h9
theorem bd_setDemand {A : AT} {x : Int32} {y : Int32} {z : Int32} : (spDem A x y z).1 ≤ 2 := by
  unfold spDem
  (repeat' split) <;> simp [thS, okS]
theorem v_setDemand {I : Nat → Nat → Int32} {R : RT} {A : AT} {x : Int32} {y : Int32} {z : Int32} {Q : Option Value → az_M → Prop} (hC : CR A I) (hQ : ∀ I' (R' : RT), CR (spDem A x y z).2.2 I' → (∀ q j, 353 < q → I' q j = I q j) → ((spDem A x y z).1 = 0 → R'.1 378 0 = (spDem A x y z).2.1.toInt64) → Q (some (.int (nI (spDem A x y z).1))) (K0, I', R')) : FL_setDemand [.ref 0, .int x, .int y, .int z, .ref 378] (K0, I, R) Q := by
  refine ⟨rfl, ?_⟩
  unfold PL_setDemand
  refine r_la rfl ⟨k_law.2.2.1, k_law.2.2.2.1, by decide, rfl, rfl, ?_⟩
  refine w_setDemand hC (fun I' h1 h2 => wr_end (by decide +kernel) bd_setDemand (fun h0 => ?_) (fun h0 => hQ I' R h1 h2 (fun z => absurd z h0)))
  refine ⟨k_law.2.2.2.2.1, by show (K0.2.1 378).1 = 23; rw [k_law.2.2.2.2.2.1], by show vp_in (nI 0) (K0.2.1 378).2; rw [k_law.2.2.2.2.2.1]; exact vp_in_nI (by decide) (by decide), ?_⟩
  have h9 := hQ I' (az_up R.1 378 0 (spDem A x y z).2.1.toInt64, R.2) h1 h2 (fun _ => up_L)
  rw [h0] at h9
  exact h9
theorem bd_setReserve {A : AT} {x : Int32} {y : Int32} : (spRes A x y).1 ≤ 2 := by
  unfold spRes
  (repeat' split) <;> simp [thS, okS]
theorem v_setReserve {I : Nat → Nat → Int32} {R : RT} {A : AT} {x : Int32} {y : Int32} {Q : Option Value → az_M → Prop} (hC : CR A I) (hQ : ∀ I' (R' : RT), CR (spRes A x y).2.2 I' → (∀ q j, 353 < q → I' q j = I q j) → ((spRes A x y).1 = 0 → R'.1 378 0 = (spRes A x y).2.1.toInt64) → Q (some (.int (nI (spRes A x y).1))) (K0, I', R')) : FL_setReserve [.ref 0, .int x, .int y, .ref 378] (K0, I, R) Q := by
  refine ⟨rfl, ?_⟩
  unfold PL_setReserve
  refine r_la rfl ⟨k_law.2.2.1, k_law.2.2.2.1, by decide, rfl, rfl, ?_⟩
  refine w_setReserve hC (fun I' h1 h2 => wr_end (by decide +kernel) bd_setReserve (fun h0 => ?_) (fun h0 => hQ I' R h1 h2 (fun z => absurd z h0)))
  refine ⟨k_law.2.2.2.2.1, by show (K0.2.1 378).1 = 23; rw [k_law.2.2.2.2.2.1], by show vp_in (nI 0) (K0.2.1 378).2; rw [k_law.2.2.2.2.2.1]; exact vp_in_nI (by decide) (by decide), ?_⟩
  have h9 := hQ I' (az_up R.1 378 0 (spRes A x y).2.1.toInt64, R.2) h1 h2 (fun _ => up_L)
  rw [h0] at h9
  exact h9
theorem bd_setLine {A : AT} {x : Int32} {y : Int32} {z : Int32} : (spLine A x y z).1 ≤ 2 := by
  unfold spLine
  (repeat' split) <;> simp [thS, okS]
theorem v_setLine {I : Nat → Nat → Int32} {R : RT} {A : AT} {x : Int32} {y : Int32} {z : Int32} {Q : Option Value → az_M → Prop} (hC : CR A I) (hQ : ∀ I' (R' : RT), CR (spLine A x y z).2.2 I' → (∀ q j, 353 < q → I' q j = I q j) → ((spLine A x y z).1 = 0 → R'.1 378 0 = (spLine A x y z).2.1.toInt64) → Q (some (.int (nI (spLine A x y z).1))) (K0, I', R')) : FL_setLine [.ref 0, .int x, .int y, .int z, .ref 378] (K0, I, R) Q := by
  refine ⟨rfl, ?_⟩
  unfold PL_setLine
  refine r_la rfl ⟨k_law.2.2.1, k_law.2.2.2.1, by decide, rfl, rfl, ?_⟩
  refine w_setLine hC (fun I' h1 h2 => wr_end (by decide +kernel) bd_setLine (fun h0 => ?_) (fun h0 => hQ I' R h1 h2 (fun z => absurd z h0)))
  refine ⟨k_law.2.2.2.2.1, by show (K0.2.1 378).1 = 23; rw [k_law.2.2.2.2.2.1], by show vp_in (nI 0) (K0.2.1 378).2; rw [k_law.2.2.2.2.2.1]; exact vp_in_nI (by decide) (by decide), ?_⟩
  have h9 := hQ I' (az_up R.1 378 0 (spLine A x y z).2.1.toInt64, R.2) h1 h2 (fun _ => up_L)
  rw [h0] at h9
  exact h9
theorem bd_addUnit {A : AT} {x : Int32} {y : Int32} {z : Int32} {v : Int32} {w : Int32} : (spAddU A x y z v w).1 ≤ 3 := by
  unfold spAddU
  (repeat' split) <;> simp [thS, okS]
theorem v_addUnit {I : Nat → Nat → Int32} {R : RT} {A : AT} {x : Int32} {y : Int32} {z : Int32} {v : Int32} {w : Int32} {Q : Option Value → az_M → Prop} (hC : CR A I) (hQ : ∀ I' (R' : RT), CR (spAddU A x y z v w).2.2 I' → (∀ q j, 353 < q → I' q j = I q j) → ((spAddU A x y z v w).1 = 0 → R'.1 378 0 = (spAddU A x y z v w).2.1.toInt64) → Q (some (.int (nI (spAddU A x y z v w).1))) (K0, I', R')) : FL_addUnit [.ref 0, .int x, .int y, .int z, .int v, .int w, .ref 378] (K0, I, R) Q := by
  refine ⟨rfl, ?_⟩
  unfold PL_addUnit
  refine r_la rfl ⟨k_law.2.2.1, k_law.2.2.2.1, by decide, rfl, rfl, ?_⟩
  refine w_addUnit hC (fun I' h1 h2 => wr_end (by decide +kernel) bd_addUnit (fun h0 => ?_) (fun h0 => hQ I' R h1 h2 (fun z => absurd z h0)))
  refine ⟨k_law.2.2.2.2.1, by show (K0.2.1 378).1 = 23; rw [k_law.2.2.2.2.2.1], by show vp_in (nI 0) (K0.2.1 378).2; rw [k_law.2.2.2.2.2.1]; exact vp_in_nI (by decide) (by decide), ?_⟩
  have h9 := hQ I' (az_up R.1 378 0 (spAddU A x y z v w).2.1.toInt64, R.2) h1 h2 (fun _ => up_L)
  rw [h0] at h9
  exact h9
theorem bd_setUnit {A : AT} {x : Int32} {y : Int32} {z : Int32} : (spSetU A x y z).1 ≤ 2 := by
  unfold spSetU
  (repeat' split) <;> simp [thS, okS]
theorem v_setUnit {I : Nat → Nat → Int32} {R : RT} {A : AT} {x : Int32} {y : Int32} {z : Int32} {Q : Option Value → az_M → Prop} (hC : CR A I) (hQ : ∀ I' (R' : RT), CR (spSetU A x y z).2.2 I' → (∀ q j, 353 < q → I' q j = I q j) → ((spSetU A x y z).1 = 0 → R'.1 378 0 = (spSetU A x y z).2.1.toInt64) → Q (some (.int (nI (spSetU A x y z).1))) (K0, I', R')) : FL_setUnit [.ref 0, .int x, .int y, .int z, .ref 378] (K0, I, R) Q := by
  refine ⟨rfl, ?_⟩
  unfold PL_setUnit
  refine r_la rfl ⟨k_law.2.2.1, k_law.2.2.2.1, by decide, rfl, rfl, ?_⟩
  refine w_setUnit hC (fun I' h1 h2 => wr_end (by decide +kernel) bd_setUnit (fun h0 => ?_) (fun h0 => hQ I' R h1 h2 (fun z => absurd z h0)))
  refine ⟨k_law.2.2.2.2.1, by show (K0.2.1 378).1 = 23; rw [k_law.2.2.2.2.2.1], by show vp_in (nI 0) (K0.2.1 378).2; rw [k_law.2.2.2.2.2.1]; exact vp_in_nI (by decide) (by decide), ?_⟩
  have h9 := hQ I' (az_up R.1 378 0 (spSetU A x y z).2.1.toInt64, R.2) h1 h2 (fun _ => up_L)
  rw [h0] at h9
  exact h9
theorem bd_unit {A : AT} {x : Int32} {y : Int32} : (spUnit A x y).1 ≤ 2 := by
  unfold spUnit
  (repeat' split) <;> simp [thS, okS]
theorem v_unit {I : Nat → Nat → Int32} {R : RT} {A : AT} {x : Int32} {y : Int32} {Q : Option Value → az_M → Prop} (hC : CR A I) (hQ : ∀ I' (R' : RT), CR (spUnit A x y).2.2 I' → (∀ q j, 353 < q → I' q j = I q j) → ((spUnit A x y).1 = 0 → R'.1 378 0 = (spUnit A x y).2.1.toInt64) → Q (some (.int (nI (spUnit A x y).1))) (K0, I', R')) : FL_unit [.ref 0, .int x, .int y, .ref 378] (K0, I, R) Q := by
  refine ⟨rfl, ?_⟩
  unfold PL_unit
  refine r_la rfl ⟨k_law.2.2.1, k_law.2.2.2.1, by decide, rfl, rfl, ?_⟩
  refine w_unit hC (fun I' h1 h2 => wr_end (by decide +kernel) bd_unit (fun h0 => ?_) (fun h0 => hQ I' R h1 h2 (fun z => absurd z h0)))
  refine ⟨k_law.2.2.2.2.1, by show (K0.2.1 378).1 = 23; rw [k_law.2.2.2.2.2.1], by show vp_in (nI 0) (K0.2.1 378).2; rw [k_law.2.2.2.2.2.1]; exact vp_in_nI (by decide) (by decide), ?_⟩
  have h9 := hQ I' (az_up R.1 378 0 (spUnit A x y).2.1.toInt64, R.2) h1 h2 (fun _ => up_L)
  rw [h0] at h9
  exact h9
theorem bd_commit {A : AT} {x : Int32} {y : Int32} {z : Int32} {on : Bool} : (spCom A x y z on).1 ≤ 2 := by
  unfold spCom
  (repeat' split) <;> simp [thS, okS]
theorem v_commit {I : Nat → Nat → Int32} {R : RT} {A : AT} {x : Int32} {y : Int32} {z : Int32} {on : Bool} {Q : Option Value → az_M → Prop} (hC : CR A I) (hQ : ∀ I' (R' : RT), CR (spCom A x y z on).2.2 I' → (∀ q j, 353 < q → I' q j = I q j) → ((spCom A x y z on).1 = 0 → R'.1 378 0 = (spCom A x y z on).2.1.toInt64) → Q (some (.int (nI (spCom A x y z on).1))) (K0, I', R')) : FL_commit [.ref 0, .int x, .int y, .int z, .int (bI on), .ref 378] (K0, I, R) Q := by
  refine ⟨rfl, ?_⟩
  unfold PL_commit
  refine r_la rfl ⟨k_law.2.2.1, k_law.2.2.2.1, by decide, rfl, rfl, ?_⟩
  refine w_commit hC (fun I' h1 h2 => wr_end (by decide +kernel) bd_commit (fun h0 => ?_) (fun h0 => hQ I' R h1 h2 (fun z => absurd z h0)))
  refine ⟨k_law.2.2.2.2.1, by show (K0.2.1 378).1 = 23; rw [k_law.2.2.2.2.2.1], by show vp_in (nI 0) (K0.2.1 378).2; rw [k_law.2.2.2.2.2.1]; exact vp_in_nI (by decide) (by decide), ?_⟩
  have h9 := hQ I' (az_up R.1 378 0 (spCom A x y z on).2.1.toInt64, R.2) h1 h2 (fun _ => up_L)
  rw [h0] at h9
  exact h9
theorem bd_addOutage {A : AT} {x : Int32} {y : Int32} {z : Int32} : (spAddO A x y z).1 ≤ 3 := by
  unfold spAddO
  (repeat' split) <;> simp [thS, okS]
theorem v_addOutage {I : Nat → Nat → Int32} {R : RT} {A : AT} {x : Int32} {y : Int32} {z : Int32} {Q : Option Value → az_M → Prop} (hC : CR A I) (hQ : ∀ I' (R' : RT), CR (spAddO A x y z).2.2 I' → (∀ q j, 353 < q → I' q j = I q j) → ((spAddO A x y z).1 = 0 → R'.1 378 0 = (spAddO A x y z).2.1.toInt64) → Q (some (.int (nI (spAddO A x y z).1))) (K0, I', R')) : FL_addOutage [.ref 0, .int x, .int y, .int z, .ref 378] (K0, I, R) Q := by
  refine ⟨rfl, ?_⟩
  unfold PL_addOutage
  refine r_la rfl ⟨k_law.2.2.1, k_law.2.2.2.1, by decide, rfl, rfl, ?_⟩
  refine w_addOutage hC (fun I' h1 h2 => wr_end (by decide +kernel) bd_addOutage (fun h0 => ?_) (fun h0 => hQ I' R h1 h2 (fun z => absurd z h0)))
  refine ⟨k_law.2.2.2.2.1, by show (K0.2.1 378).1 = 23; rw [k_law.2.2.2.2.2.1], by show vp_in (nI 0) (K0.2.1 378).2; rw [k_law.2.2.2.2.2.1]; exact vp_in_nI (by decide) (by decide), ?_⟩
  have h9 := hQ I' (az_up R.1 378 0 (spAddO A x y z).2.1.toInt64, R.2) h1 h2 (fun _ => up_L)
  rw [h0] at h9
  exact h9
theorem bd_removeOutage {A : AT} {x : Int32} : (spRemO A x).1 ≤ 1 := by
  unfold spRemO
  (repeat' split) <;> simp [thS, okS]
theorem v_removeOutage {I : Nat → Nat → Int32} {R : RT} {A : AT} {x : Int32} {Q : Option Value → az_M → Prop} (hC : CR A I) (hQ : ∀ I' (R' : RT), CR (spRemO A x).2.2 I' → (∀ q j, 353 < q → I' q j = I q j) → ((spRemO A x).1 = 0 → R'.1 378 0 = (spRemO A x).2.1.toInt64) → Q (some (.int (nI (spRemO A x).1))) (K0, I', R')) : FL_removeOutage [.ref 0, .int x, .ref 378] (K0, I, R) Q := by
  refine ⟨rfl, ?_⟩
  unfold PL_removeOutage
  refine r_la rfl ⟨k_law.2.2.1, k_law.2.2.2.1, by decide, rfl, rfl, ?_⟩
  refine w_removeOutage hC (fun I' h1 h2 => wr_end (by decide +kernel) bd_removeOutage (fun h0 => ?_) (fun h0 => hQ I' R h1 h2 (fun z => absurd z h0)))
  refine ⟨k_law.2.2.2.2.1, by show (K0.2.1 378).1 = 23; rw [k_law.2.2.2.2.2.1], by show vp_in (nI 0) (K0.2.1 378).2; rw [k_law.2.2.2.2.2.1]; exact vp_in_nI (by decide) (by decide), ?_⟩
  have h9 := hQ I' (az_up R.1 378 0 (spRemO A x).2.1.toInt64, R.2) h1 h2 (fun _ => up_L)
  rw [h0] at h9
  exact h9
theorem bd_setPolicy {A : AT} {x : Int32} : (spPol A x).1 ≤ 1 := by
  unfold spPol
  (repeat' split) <;> simp [thS, okS]
theorem v_setPolicy {I : Nat → Nat → Int32} {R : RT} {A : AT} {x : Int32} {Q : Option Value → az_M → Prop} (hC : CR A I) (hQ : ∀ I' (R' : RT), CR (spPol A x).2.2 I' → (∀ q j, 353 < q → I' q j = I q j) → ((spPol A x).1 = 0 → R'.1 378 0 = (spPol A x).2.1.toInt64) → Q (some (.int (nI (spPol A x).1))) (K0, I', R')) : FL_setPolicy [.ref 0, .int x, .ref 378] (K0, I, R) Q := by
  refine ⟨rfl, ?_⟩
  unfold PL_setPolicy
  refine r_la rfl ⟨k_law.2.2.1, k_law.2.2.2.1, by decide, rfl, rfl, ?_⟩
  refine w_setPolicy hC (fun I' h1 h2 => wr_end (by decide +kernel) bd_setPolicy (fun h0 => ?_) (fun h0 => hQ I' R h1 h2 (fun z => absurd z h0)))
  refine ⟨k_law.2.2.2.2.1, by show (K0.2.1 378).1 = 23; rw [k_law.2.2.2.2.2.1], by show vp_in (nI 0) (K0.2.1 378).2; rw [k_law.2.2.2.2.2.1]; exact vp_in_nI (by decide) (by decide), ?_⟩
  have h9 := hQ I' (az_up R.1 378 0 (spPol A x).2.1.toInt64, R.2) h1 h2 (fun _ => up_L)
  rw [h0] at h9
  exact h9
theorem bd_outage {A : AT} {x : Int32} {y : Int32} : (spOut A x y).1 ≤ 2 := by
  unfold spOut
  (repeat' split) <;> simp [thS, okS]
theorem v_outage {I : Nat → Nat → Int32} {R : RT} {A : AT} {x : Int32} {y : Int32} {Q : Option Value → az_M → Prop} (hC : CR A I) (hQ : ∀ I' (R' : RT), CR (spOut A x y).2.2 I' → (∀ q j, 353 < q → I' q j = I q j) → ((spOut A x y).1 = 0 → R'.1 378 0 = (spOut A x y).2.1.toInt64) → Q (some (.int (nI (spOut A x y).1))) (K0, I', R')) : FL_outage [.ref 0, .int x, .int y, .ref 378] (K0, I, R) Q := by
  refine ⟨rfl, ?_⟩
  unfold PL_outage
  refine r_la rfl ⟨k_law.2.2.1, k_law.2.2.2.1, by decide, rfl, rfl, ?_⟩
  refine w_outage hC (fun I' h1 h2 => wr_end (by decide +kernel) bd_outage (fun h0 => ?_) (fun h0 => hQ I' R h1 h2 (fun z => absurd z h0)))
  refine ⟨k_law.2.2.2.2.1, by show (K0.2.1 378).1 = 23; rw [k_law.2.2.2.2.2.1], by show vp_in (nI 0) (K0.2.1 378).2; rw [k_law.2.2.2.2.2.1]; exact vp_in_nI (by decide) (by decide), ?_⟩
  have h9 := hQ I' (az_up R.1 378 0 (spOut A x y).2.1.toInt64, R.2) h1 h2 (fun _ => up_L)
  rw [h0] at h9
  exact h9
theorem bd_search {A : AT} : (spSrch A).1 ≤ 2 := by
  unfold spSrch
  (repeat' split) <;> simp [thS, okS]
theorem v_search {I : Nat → Nat → Int32} {R : RT} {A : AT} {Q : Option Value → az_M → Prop} (hC : CR A I) (hQ : ∀ I' (R' : RT), CR (spSrch A).2.2 I' → (∀ q j, 353 < q → I' q j = I q j) → ((spSrch A).1 = 0 → R'.1 378 0 = (spSrch A).2.1.toInt64) → Q (some (.int (nI (spSrch A).1))) (K0, I', R')) : FL_search [.ref 0, .ref 378] (K0, I, R) Q := by
  refine ⟨rfl, ?_⟩
  unfold PL_search
  refine r_la rfl ⟨k_law.2.2.1, k_law.2.2.2.1, by decide, rfl, rfl, ?_⟩
  refine w_search hC (fun I' h1 h2 => wr_end (by decide +kernel) bd_search (fun h0 => ?_) (fun h0 => hQ I' R h1 h2 (fun z => absurd z h0)))
  refine ⟨k_law.2.2.2.2.1, by show (K0.2.1 378).1 = 23; rw [k_law.2.2.2.2.2.1], by show vp_in (nI 0) (K0.2.1 378).2; rw [k_law.2.2.2.2.2.1]; exact vp_in_nI (by decide) (by decide), ?_⟩
  have h9 := hQ I' (az_up R.1 378 0 (spSrch A).2.1.toInt64, R.2) h1 h2 (fun _ => up_L)
  rw [h0] at h9
  exact h9
theorem bd_append {A : AT} {x : Int32} : (spApp A x).1 ≤ 2 := by
  unfold spApp
  (repeat' split) <;> simp [thS, okS]
theorem v_append {I : Nat → Nat → Int32} {R : RT} {A : AT} {x : Int32} {Q : Option Value → az_M → Prop} (hC : CR A I) (hQ : ∀ I' (R' : RT), CR (spApp A x).2.2 I' → (∀ q j, 353 < q → I' q j = I q j) → ((spApp A x).1 = 0 → R'.1 378 0 = (spApp A x).2.1.toInt64) → Q (some (.int (nI (spApp A x).1))) (K0, I', R')) : FL_append [.ref 0, .int x, .ref 378] (K0, I, R) Q := by
  refine ⟨rfl, ?_⟩
  unfold PL_append
  refine r_la rfl ⟨k_law.2.2.1, k_law.2.2.2.1, by decide, rfl, rfl, ?_⟩
  refine w_append hC (fun I' h1 h2 => wr_end (by decide +kernel) bd_append (fun h0 => ?_) (fun h0 => hQ I' R h1 h2 (fun z => absurd z h0)))
  refine ⟨k_law.2.2.2.2.1, by show (K0.2.1 378).1 = 23; rw [k_law.2.2.2.2.2.1], by show vp_in (nI 0) (K0.2.1 378).2; rw [k_law.2.2.2.2.2.1]; exact vp_in_nI (by decide) (by decide), ?_⟩
  have h9 := hQ I' (az_up R.1 378 0 (spApp A x).2.1.toInt64, R.2) h1 h2 (fun _ => up_L)
  rw [h0] at h9
  exact h9
theorem bd_readPlan {A : AT} : (spRead A).1 ≤ 2 := by
  unfold spRead
  (repeat' split) <;> simp [thS, okS]
theorem v_readPlan {I : Nat → Nat → Int32} {R : RT} {A : AT} {Q : Option Value → az_M → Prop} (hC : CR A I) (hQ : ∀ I' (R' : RT), CR (spRead A).2.2 I' → (∀ q j, 353 < q → I' q j = I q j) → ((spRead A).1 = 0 → R'.1 378 0 = (spRead A).2.1.toInt64) → Q (some (.int (nI (spRead A).1))) (K0, I', R')) : FL_readPlan [.ref 0, .ref 378] (K0, I, R) Q := by
  refine ⟨rfl, ?_⟩
  unfold PL_readPlan
  refine r_la rfl ⟨k_law.2.2.1, k_law.2.2.2.1, by decide, rfl, rfl, ?_⟩
  refine w_readPlan hC (fun I' h1 h2 => wr_end (by decide +kernel) bd_readPlan (fun h0 => ?_) (fun h0 => hQ I' R h1 h2 (fun z => absurd z h0)))
  refine ⟨k_law.2.2.2.2.1, by show (K0.2.1 378).1 = 23; rw [k_law.2.2.2.2.2.1], by show vp_in (nI 0) (K0.2.1 378).2; rw [k_law.2.2.2.2.2.1]; exact vp_in_nI (by decide) (by decide), ?_⟩
  have h9 := hQ I' (az_up R.1 378 0 (spRead A).2.1.toInt64, R.2) h1 h2 (fun _ => up_L)
  rw [h0] at h9
  exact h9
theorem bd_errorPosition {A : AT} : (spErr A).1 ≤ 1 := by
  unfold spErr
  (repeat' split) <;> simp [thS, okS]
theorem v_errorPosition {I : Nat → Nat → Int32} {R : RT} {A : AT} {Q : Option Value → az_M → Prop} (hC : CR A I) (hQ : ∀ I' (R' : RT), CR (spErr A).2.2 I' → (∀ q j, 353 < q → I' q j = I q j) → ((spErr A).1 = 0 → R'.1 378 0 = (spErr A).2.1.toInt64) → Q (some (.int (nI (spErr A).1))) (K0, I', R')) : FL_errorPosition [.ref 0, .ref 378] (K0, I, R) Q := by
  refine ⟨rfl, ?_⟩
  unfold PL_errorPosition
  refine r_la rfl ⟨k_law.2.2.1, k_law.2.2.2.1, by decide, rfl, rfl, ?_⟩
  refine w_errorPosition hC (fun I' h1 h2 => wr_end (by decide +kernel) bd_errorPosition (fun h0 => ?_) (fun h0 => hQ I' R h1 h2 (fun z => absurd z h0)))
  refine ⟨k_law.2.2.2.2.1, by show (K0.2.1 378).1 = 23; rw [k_law.2.2.2.2.2.1], by show vp_in (nI 0) (K0.2.1 378).2; rw [k_law.2.2.2.2.2.1]; exact vp_in_nI (by decide) (by decide), ?_⟩
  have h9 := hQ I' (az_up R.1 378 0 (spErr A).2.1.toInt64, R.2) h1 h2 (fun _ => up_L)
  rw [h0] at h9
  exact h9
theorem bd_output {A : AT} {x : Int32} {y : Int32} {z : Int32} : (spOutp A x y z).1 ≤ 2 := by
  unfold spOutp
  (repeat' split) <;> simp [thS, okS]
theorem v_output {I : Nat → Nat → Int32} {R : RT} {A : AT} {x : Int32} {y : Int32} {z : Int32} {Q : Option Value → az_M → Prop} (hC : CR A I) (hQ : ∀ I' (R' : RT), CR (spOutp A x y z).2.2 I' → (∀ q j, 353 < q → I' q j = I q j) → ((spOutp A x y z).1 = 0 → R'.1 378 0 = (spOutp A x y z).2.1.toInt64) → Q (some (.int (nI (spOutp A x y z).1))) (K0, I', R')) : FL_output [.ref 0, .int x, .int y, .int z, .ref 378] (K0, I, R) Q := by
  refine ⟨rfl, ?_⟩
  unfold PL_output
  refine r_la rfl ⟨k_law.2.2.1, k_law.2.2.2.1, by decide, rfl, rfl, ?_⟩
  refine w_output hC (fun I' h1 h2 => wr_end (by decide +kernel) bd_output (fun h0 => ?_) (fun h0 => hQ I' R h1 h2 (fun z => absurd z h0)))
  refine ⟨k_law.2.2.2.2.1, by show (K0.2.1 378).1 = 23; rw [k_law.2.2.2.2.2.1], by show vp_in (nI 0) (K0.2.1 378).2; rw [k_law.2.2.2.2.2.1]; exact vp_in_nI (by decide) (by decide), ?_⟩
  have h9 := hQ I' (az_up R.1 378 0 (spOutp A x y z).2.1.toInt64, R.2) h1 h2 (fun _ => up_L)
  rw [h0] at h9
  exact h9
theorem bd_delivered {A : AT} {x : Int32} {y : Int32} {z : Int32} : (spDel A x y z).1 ≤ 1 := by
  unfold spDel
  (repeat' split) <;> simp [thS, okS]
theorem v_delivered {I : Nat → Nat → Int32} {R : RT} {A : AT} {x : Int32} {y : Int32} {z : Int32} {Q : Option Value → az_M → Prop} (hC : CR A I) (hQ : ∀ I' (R' : RT), CR (spDel A x y z).2.2 I' → (∀ q j, 353 < q → I' q j = I q j) → ((spDel A x y z).1 = 0 → R'.1 378 0 = (spDel A x y z).2.1.toInt64) → Q (some (.int (nI (spDel A x y z).1))) (K0, I', R')) : FL_delivered [.ref 0, .int x, .int y, .int z, .ref 378] (K0, I, R) Q := by
  refine ⟨rfl, ?_⟩
  unfold PL_delivered
  refine r_la rfl ⟨k_law.2.2.1, k_law.2.2.2.1, by decide, rfl, rfl, ?_⟩
  refine w_delivered hC (fun I' h1 h2 => wr_end (by decide +kernel) bd_delivered (fun h0 => ?_) (fun h0 => hQ I' R h1 h2 (fun z => absurd z h0)))
  refine ⟨k_law.2.2.2.2.1, by show (K0.2.1 378).1 = 23; rw [k_law.2.2.2.2.2.1], by show vp_in (nI 0) (K0.2.1 378).2; rw [k_law.2.2.2.2.2.1]; exact vp_in_nI (by decide) (by decide), ?_⟩
  have h9 := hQ I' (az_up R.1 378 0 (spDel A x y z).2.1.toInt64, R.2) h1 h2 (fun _ => up_L)
  rw [h0] at h9
  exact h9
theorem bd_bus {A : AT} {x : Int32} {y : Int32} {z : Int32} : (spBus A x y z).1 ≤ 2 := by
  unfold spBus
  (repeat' split) <;> simp [thS, okS]
theorem v_bus {I : Nat → Nat → Int32} {R : RT} {A : AT} {x : Int32} {y : Int32} {z : Int32} {Q : Option Value → az_M → Prop} (hC : CR A I) (hQ : ∀ I' (R' : RT), CR (spBus A x y z).2.2 I' → (∀ q j, 353 < q → I' q j = I q j) → ((spBus A x y z).1 = 0 → R'.1 378 0 = (spBus A x y z).2.1.toInt64) → Q (some (.int (nI (spBus A x y z).1))) (K0, I', R')) : FL_bus [.ref 0, .int x, .int y, .int z, .ref 378] (K0, I, R) Q := by
  refine ⟨rfl, ?_⟩
  unfold PL_bus
  refine r_la rfl ⟨k_law.2.2.1, k_law.2.2.2.1, by decide, rfl, rfl, ?_⟩
  refine w_bus hC (fun I' h1 h2 => wr_end (by decide +kernel) bd_bus (fun h0 => ?_) (fun h0 => hQ I' R h1 h2 (fun z => absurd z h0)))
  refine ⟨k_law.2.2.2.2.1, by show (K0.2.1 378).1 = 23; rw [k_law.2.2.2.2.2.1], by show vp_in (nI 0) (K0.2.1 378).2; rw [k_law.2.2.2.2.2.1]; exact vp_in_nI (by decide) (by decide), ?_⟩
  have h9 := hQ I' (az_up R.1 378 0 (spBus A x y z).2.1.toInt64, R.2) h1 h2 (fun _ => up_L)
  rw [h0] at h9
  exact h9
theorem bd_hour {A : AT} {x : Int32} {y : Int32} : (spHour A x y).1 ≤ 2 := by
  unfold spHour
  (repeat' split) <;> simp [thS, okS]
theorem v_hour {I : Nat → Nat → Int32} {R : RT} {A : AT} {x : Int32} {y : Int32} {Q : Option Value → az_M → Prop} (hC : CR A I) (hQ : ∀ I' (R' : RT), CR (spHour A x y).2.2 I' → (∀ q j, 353 < q → I' q j = I q j) → ((spHour A x y).1 = 0 → R'.1 378 0 = (spHour A x y).2.1.toInt64) → Q (some (.int (nI (spHour A x y).1))) (K0, I', R')) : FL_hour [.ref 0, .int x, .int y, .ref 378] (K0, I, R) Q := by
  refine ⟨rfl, ?_⟩
  unfold PL_hour
  refine r_la rfl ⟨k_law.2.2.1, k_law.2.2.2.1, by decide, rfl, rfl, ?_⟩
  refine w_qhour hC (fun I' h1 h2 => wr_end (by decide +kernel) bd_hour (fun h0 => ?_) (fun h0 => hQ I' R h1 h2 (fun z => absurd z h0)))
  refine ⟨k_law.2.2.2.2.1, by show (K0.2.1 378).1 = 23; rw [k_law.2.2.2.2.2.1], by show vp_in (nI 0) (K0.2.1 378).2; rw [k_law.2.2.2.2.2.1]; exact vp_in_nI (by decide) (by decide), ?_⟩
  have h9 := hQ I' (az_up R.1 378 0 (spHour A x y).2.1.toInt64, R.2) h1 h2 (fun _ => up_L)
  rw [h0] at h9
  exact h9
theorem bd_total {A : AT} {x : Int32} : (spTot A x).1 ≤ 1 := by
  unfold spTot
  (repeat' split) <;> simp [thS, okS]
theorem v_total {I : Nat → Nat → Int32} {R : RT} {A : AT} {x : Int32} {Q : Option Value → az_M → Prop} (hC : CR A I) (hQ : ∀ I' (R' : RT), CR (spTot A x).2.2 I' → (∀ q j, 353 < q → I' q j = I q j) → ((spTot A x).1 = 0 → R'.1 378 0 = (spTot A x).2.1.toInt64) → Q (some (.int (nI (spTot A x).1))) (K0, I', R')) : FL_total [.ref 0, .int x, .ref 378] (K0, I, R) Q := by
  refine ⟨rfl, ?_⟩
  unfold PL_total
  refine r_la rfl ⟨k_law.2.2.1, k_law.2.2.2.1, by decide, rfl, rfl, ?_⟩
  refine w_total hC (fun I' h1 h2 => wr_end (by decide +kernel) bd_total (fun h0 => ?_) (fun h0 => hQ I' R h1 h2 (fun z => absurd z h0)))
  refine ⟨k_law.2.2.2.2.1, by show (K0.2.1 378).1 = 23; rw [k_law.2.2.2.2.2.1], by show vp_in (nI 0) (K0.2.1 378).2; rw [k_law.2.2.2.2.2.1]; exact vp_in_nI (by decide) (by decide), ?_⟩
  have h9 := hQ I' (az_up R.1 378 0 (spTot A x).2.1.toInt64, R.2) h1 h2 (fun _ => up_L)
  rw [h0] at h9
  exact h9
theorem bd_violationCount {A : AT} {x : Int32} : (spVc A x).1 ≤ 1 := by
  unfold spVc
  (repeat' split) <;> simp [thS, okS]
theorem v_violationCount {I : Nat → Nat → Int32} {R : RT} {A : AT} {x : Int32} {Q : Option Value → az_M → Prop} (hC : CR A I) (hQ : ∀ I' (R' : RT), CR (spVc A x).2.2 I' → (∀ q j, 353 < q → I' q j = I q j) → ((spVc A x).1 = 0 → R'.1 378 0 = (spVc A x).2.1.toInt64) → Q (some (.int (nI (spVc A x).1))) (K0, I', R')) : FL_violationCount [.ref 0, .int x, .ref 378] (K0, I, R) Q := by
  refine ⟨rfl, ?_⟩
  unfold PL_violationCount
  refine r_la rfl ⟨k_law.2.2.1, k_law.2.2.2.1, by decide, rfl, rfl, ?_⟩
  refine w_violationCount hC (fun I' h1 h2 => wr_end (by decide +kernel) bd_violationCount (fun h0 => ?_) (fun h0 => hQ I' R h1 h2 (fun z => absurd z h0)))
  refine ⟨k_law.2.2.2.2.1, by show (K0.2.1 378).1 = 23; rw [k_law.2.2.2.2.2.1], by show vp_in (nI 0) (K0.2.1 378).2; rw [k_law.2.2.2.2.2.1]; exact vp_in_nI (by decide) (by decide), ?_⟩
  have h9 := hQ I' (az_up R.1 378 0 (spVc A x).2.1.toInt64, R.2) h1 h2 (fun _ => up_L)
  rw [h0] at h9
  exact h9
theorem bd_violation {A : AT} {x : Int32} {y : Int32} : (spVi A x y).1 ≤ 2 := by
  unfold spVi
  (repeat' split) <;> simp [thS, okS]
theorem v_violation {I : Nat → Nat → Int32} {R : RT} {A : AT} {x : Int32} {y : Int32} {Q : Option Value → az_M → Prop} (hC : CR A I) (hQ : ∀ I' (R' : RT), CR (spVi A x y).2.2 I' → (∀ q j, 353 < q → I' q j = I q j) → ((spVi A x y).1 = 0 → R'.1 378 0 = (spVi A x y).2.1.toInt64) → Q (some (.int (nI (spVi A x y).1))) (K0, I', R')) : FL_violation [.ref 0, .int x, .int y, .ref 378] (K0, I, R) Q := by
  refine ⟨rfl, ?_⟩
  unfold PL_violation
  refine r_la rfl ⟨k_law.2.2.1, k_law.2.2.2.1, by decide, rfl, rfl, ?_⟩
  refine w_violation hC (fun I' h1 h2 => wr_end (by decide +kernel) bd_violation (fun h0 => ?_) (fun h0 => hQ I' R h1 h2 (fun z => absurd z h0)))
  refine ⟨k_law.2.2.2.2.1, by show (K0.2.1 378).1 = 23; rw [k_law.2.2.2.2.2.1], by show vp_in (nI 0) (K0.2.1 378).2; rw [k_law.2.2.2.2.2.1]; exact vp_in_nI (by decide) (by decide), ?_⟩
  have h9 := hQ I' (az_up R.1 378 0 (spVi A x y).2.1.toInt64, R.2) h1 h2 (fun _ => up_L)
  rw [h0] at h9
  exact h9
theorem v_meanCost {I : Nat → Nat → Int32} {R : RT} {A : AT} {Q : Option Value → az_M → Prop} (hC : CR A I) (hX : mtS A.1 = 0 → ∀ I', CR A I' → (∀ q j, 353 < q → I' q j = I q j) → Q (some (.int (nI 1))) (K0, I', R)) (hQ : mtS A.1 ≠ 0 → ∀ I', CR A I' → (∀ q j, 353 < q → I' q j = I q j) → Q (some (.int (nI 0))) (K0, I', (R.1, az_up R.2 379 0 (mnV A.1)))) : FL_meanCost [.ref 0, .ref 379] (K0, I, R) Q := by
  refine ⟨rfl, ?_⟩
  unfold PL_meanCost
  refine r_la rfl ⟨k_law.2.2.1, k_law.2.2.2.1, by decide, rfl, rfl, ?_⟩
  refine w_meanCost hC (fun e I' h1 h2 => ?_) (fun e I' h1 h2 => ?_)
  · rw [show az_idx ["java/lang/ArithmeticException"] eAE 1 = some 1 by decide +kernel]
    exact hX e I' h1 h2
  · exact ⟨k_law.2.2.2.2.2.2.1, by show (K0.2.1 379).1 = 24; rw [k_law.2.2.2.2.2.2.2], by show vp_in (nI 0) (K0.2.1 379).2; rw [k_law.2.2.2.2.2.2.2]; exact vp_in_nI (by decide) (by decide), hQ e I' h1 h2⟩
theorem v_load {I : Nat → Nat → Int32} {R : RT} {A : AT} {x : Int32} {Q : Option Value → az_M → Prop} (hC : CR A I) (hX1 : isB (pU A.1) x = false → Q (some (.int (nI 1))) (K0, I, R)) (hX2 : isB (pU A.1) x = true → hrN A.1 (iN x) = 0 → ∀ I', CR A I' → (∀ q j, 353 < q → I' q j = I q j) → Q (some (.int (nI 2))) (K0, I', R)) (hQ : isB (pU A.1) x = true → hrN A.1 (iN x) ≠ 0 → ∀ I', CR A I' → (∀ q j, 353 < q → I' q j = I q j) → vf_n64 (FP.f2d (ldV A.1 (iN x))) → Q (some (.int (nI 0))) (K0, I', (R.1, az_up R.2 379 0 (FP.f2d (ldV A.1 (iN x)))))) : FL_load [.ref 0, .int x, .ref 379] (K0, I, R) Q := by
  refine ⟨rfl, ?_⟩
  unfold PL_load
  refine r_la rfl ⟨k_law.2.2.1, k_law.2.2.2.1, by decide, rfl, rfl, ?_⟩
  have hV := hC.1
  refine w_load hC (fun e => ?_) (fun e1 e2 I' h1 h2 => ?_) (fun e1 e2 I' h1 h2 => ?_)
  · rw [show az_idx ["java/lang/IndexOutOfBoundsException", "java/lang/ArithmeticException"] eIX 1 = some 1 by decide +kernel]
    exact hX1 e
  · rw [show az_idx ["java/lang/IndexOutOfBoundsException", "java/lang/ArithmeticException"] eAE 1 = some 2 by decide +kernel]
    exact hX2 e1 e2 I' h1 h2
  · have hn : vf_n64 (FP.f2d (ldV A.1 (iN x))) := n64_f2d (n32_div (ldN_ne hV (by
      have hU := hV.2.2.2.1
      obtain ⟨u, hu, rfl⟩ := isB_t (by omega) e1
      show (nI u).toNatClampNeg < _
      rw [nI_clamp (by omega)]; exact hu) e2))
    exact ⟨hn, k_law.2.2.2.2.2.2.1, by show (K0.2.1 379).1 = 24; rw [k_law.2.2.2.2.2.2.2], by show vp_in (nI 0) (K0.2.1 379).2; rw [k_law.2.2.2.2.2.2.2]; exact vp_in_nI (by decide) (by decide), hQ e1 e2 I' h1 h2 hn⟩
theorem bd_undo {A : AT} : (spUndo A).1 ≤ 1 := by
  unfold spUndo
  (repeat' split) <;> simp [thS, okS]
theorem v_undo {I : Nat → Nat → Int32} {R : RT} {A : AT} {Q : Option Value → az_M → Prop} (hC : CR A I) (hQ : ∀ I' (R' : RT), CR (spUndo A).2.2 I' → (∀ q j, 353 < q → I' q j = I q j) → ((spUndo A).1 = 0 → R'.1 378 0 = (spUndo A).2.1.toInt64) → Q (some (.int (nI (spUndo A).1))) (K0, I', R')) : FL_undo [.ref 0, .ref 378] (K0, I, R) Q := by
  refine ⟨rfl, ?_⟩
  unfold PL_undo
  refine r_la rfl ⟨k_law.2.2.1, k_law.2.2.2.1, by decide, rfl, rfl, ?_⟩
  refine w_undo hC (fun I' h1 h2 => wr_end (by decide +kernel) bd_undo (fun h0 => ?_) (fun h0 => hQ I' R h1 h2 (fun z => absurd z h0)))
  refine ⟨k_law.2.2.2.2.1, by show (K0.2.1 378).1 = 23; rw [k_law.2.2.2.2.2.1], by show vp_in (nI 0) (K0.2.1 378).2; rw [k_law.2.2.2.2.2.1]; exact vp_in_nI (by decide) (by decide), ?_⟩
  have h9 := hQ I' (az_up R.1 378 0 (spUndo A).2.1.toInt64, R.2) h1 h2 (fun _ => up_L)
  rw [h0] at h9
  exact h9
theorem bd_restore {A : AT} : (spRest A).1 ≤ 1 := by
  unfold spRest
  (repeat' split) <;> simp [thS, okS]
theorem v_restore {I : Nat → Nat → Int32} {R : RT} {A : AT} {Q : Option Value → az_M → Prop} (hC : CR A I) (hQ : ∀ I' (R' : RT), CR (spRest A).2.2 I' → (∀ q j, 353 < q → I' q j = I q j) → ((spRest A).1 = 0 → R'.1 378 0 = (spRest A).2.1.toInt64) → Q (some (.int (nI (spRest A).1))) (K0, I', R')) : FL_restore [.ref 0, .ref 378] (K0, I, R) Q := by
  refine ⟨rfl, ?_⟩
  unfold PL_restore
  refine r_la rfl ⟨k_law.2.2.1, k_law.2.2.2.1, by decide, rfl, rfl, ?_⟩
  refine w_restore hC (fun I' h1 h2 => wr_end (by decide +kernel) bd_restore (fun h0 => ?_) (fun h0 => hQ I' R h1 h2 (fun z => absurd z h0)))
  refine ⟨k_law.2.2.2.2.1, by show (K0.2.1 378).1 = 23; rw [k_law.2.2.2.2.2.1], by show vp_in (nI 0) (K0.2.1 378).2; rw [k_law.2.2.2.2.2.1]; exact vp_in_nI (by decide) (by decide), ?_⟩
  have h9 := hQ I' (az_up R.1 378 0 (spRest A).2.1.toInt64, R.2) h1 h2 (fun _ => up_L)
  rw [h0] at h9
  exact h9
