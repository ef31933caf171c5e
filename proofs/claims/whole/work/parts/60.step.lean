set_option maxRecDepth 100000
/-! what a call does: the number of its exception (0: none), its answer, the planner after it -/
abbrev ST : Type := Nat × Int32 × AT
def thS (k : Nat) (A : AT) : ST := (k, nI 0, A)
def okS (x : Int32) (A : AT) : ST := (0, x, A)
def chS (A : AT) (S : PS) : AT := (S, puH A.1 A.2.1, A.2.2)
abbrev iN (x : Int32) : Nat := x.toNatClampNeg
theorem inW_i {a b : Nat} {z : Int32} (ha : a < 2 ^ 31) (hb : b < 2 ^ 31) (h : inW (nI a) (nI b) z = true) : inI a b z := by
  unfold inW at h
  rw [Bool.and_eq_true, decide_eq_true_eq, decide_eq_true_eq, Int32.le_iff_toInt_le, Int32.le_iff_toInt_le, nI_int ha, nI_int hb] at h
  exact h
/-- a number between two is a natural one -/
theorem inW_t {lo hi : Nat} {x : Int32} (h1 : lo < 2 ^ 31) (h2 : hi < 2 ^ 31) (h : inW (nI lo) (nI hi) x = true) : ∃ k, lo ≤ k ∧ k ≤ hi ∧ x = nI k := by
  have := inW_i h1 h2 h
  unfold inI at this
  refine ⟨x.toInt.toNat, by omega, by omega, ?_⟩
  apply Int32.toInt_inj.mp
  rw [nI_int (by omega)]
  omega
theorem inW_n {lo hi k : Nat} (h : lo < 2 ^ 31 ∧ hi < 2 ^ 31 ∧ k < 2 ^ 31) : inW (nI lo) (nI hi) (nI k) = (decide (lo ≤ k) && decide (k ≤ hi)) := by
  unfold inW
  rw [decide_eq_decide.mpr (iff_of_eq (nIle ⟨h.1, h.2.2⟩)), decide_eq_decide.mpr (iff_of_eq (nIle ⟨h.2.2, h.2.1⟩))]
def setR (S : PS) (h : Nat) (x : Int32) : PS := (S.1, S.2.1, S.2.2.1, S.2.2.2.1, S.2.2.2.2.1, (fun h' => if h' = h then x else pR S h'), S.2.2.2.2.2.2)
def setPo (S : PS) (x : Nat) : PS := ((pH S, pB S, x, pU S, pO S), S.2)
def setL (S : PS) (c p : Nat) (x : Int32) : PS := (S.1, S.2.1, S.2.2.1, S.2.2.2.1, S.2.2.2.2.1, S.2.2.2.2.2.1, (fun c' => if c' = c then p else pPar S c'), fun c' => if c' = c then x else pL S c')
def addU (S : PS) (b : Nat) (lo hi ra co : Int32) : PS := ((pH S, pB S, pP S, pU S + 1, pO S), (fun u k => if u = pU S then nwT lo hi ra co k else pT S u k), (fun u => if u = pU S then b else pBus S u), S.2.2.2)
/-- the terms of a unit after setUnit -/
def setT (S : PS) (u k : Nat) (v : Int32) : PS := (S.1, (fun u' k' => if u' = u then (if k' = k then v else if k' = 7 ∧ k = 6 ∧ v < 0 then nI 0 else if k' = 7 ∧ k = 6 ∧ 0 < v ∧ pT S u 6 < 0 then pT S u 9 else pT S u k') else pT S u' k'), S.2.2)
def ftT (S : PS) (u k : Nat) (v : Int32) : Bool := if k ≤ 2 then inW (nI 0) (nI 10000) v else if k = 3 then inW (nI 0) (nI 24) v else if k ≤ 5 then inW (nI 1) (nI 24) v else if k = 6 then !decide (v = 0) && inW (-24) (nI 24) v else if 0 < pT S u 6 then inW (pT S u 9) (pT S u 10) v else decide (v = 0)
/-- the bits from f to t -/
def hmM (f t : Nat) : Int32 := (nI 1 <<< (nI (t + 1) &&& 31)) - (nI 1 <<< (nI f &&& 31))
def cmM (p : Int32) (f t : Nat) (on : Bool) : Int32 := if on = true then p ||| hmM f t else p &&& (hmM f t ^^^ (-1))
def setP1 (S : PS) (u : Nat) (p : Int32) : PS := (S.1, (fun u' k => if u' = u ∧ k = 13 then p else pT S u' k), S.2.2)
def addO (S : PS) (u h r : Nat) : PS := ((pH S, pB S, pP S, pU S, pO S + 1), S.2.1, S.2.2.1, (fun o => if o = pO S then (u, h, r) else pX S o), S.2.2.2.2)
def remO (S : PS) (o : Nat) : PS := ((pH S, pB S, pP S, pU S, pO S - 1), S.2.1, S.2.2.1, (fun i => if o ≤ i then pX S (i + 1) else pX S i), S.2.2.2.2)
/-! the calls that set -/
def spSize (A : AT) (x y : Int32) : ST := if inW (nI 1) (nI 24) x = false ∨ inW (nI 1) (nI 4) y = false then thS 1 A else okS (nI (pU A.1)) (S0 (iN x) (iN y), (A.2.1.1, 0), A.2.2)
def spDem (A : AT) (x y z : Int32) : ST := if isB (pB A.1) x = false ∨ isB (pH A.1) y = false then thS 1 A else if inW (nI 0) (nI 500) z = false then thS 2 A else okS (pD A.1 (iN x) (iN y)) (chS A (setD A.1 (iN x) (iN y) z))
def spRes (A : AT) (y z : Int32) : ST := if isB (pH A.1) y = false then thS 1 A else if inW (nI 0) (nI 500) z = false then thS 2 A else okS (pR A.1 (iN y)) (chS A (setR A.1 (iN y) z))
def spLine (A : AT) (x y z : Int32) : ST := if isB (pB A.1) x = false ∨ x = 0 ∨ y < 0 ∨ x ≤ y then thS 1 A else if inW (nI 0) (nI 1000) z = false then thS 2 A else okS (pL A.1 (iN x)) (chS A (setL A.1 (iN x) (iN y) z))
def spAddU (A : AT) (b lo hi ra co : Int32) : ST := if isB (pB A.1) b = false then thS 1 A else if inW (nI 0) (nI 500) lo = false ∨ inW (mxI lo (nI 1)) (nI 500) hi = false ∨ inW (nI 1) (nI 500) ra = false ∨ inW (nI 0) (nI 100) co = false then thS 2 A else if 6 ≤ pU A.1 then thS 3 A else okS (nI (pU A.1)) (chS A (addU A.1 (iN b) lo hi ra co))
def spSetU (A : AT) (u k v : Int32) : ST := if isB (pU A.1) u = false ∨ inW (nI 0) (nI 7) k = false then thS 1 A else if ftT A.1 (iN u) (iN k) v = false then thS 2 A else okS (pT A.1 (iN u) (iN k)) (chS A (setT A.1 (iN u) (iN k) v))
def spCom (A : AT) (u f t : Int32) (on : Bool) : ST := if isB (pU A.1) u = false ∨ isB (pH A.1) f = false ∨ isB (pH A.1) t = false then thS 1 A else if t < f then thS 2 A else okS (bcJ (pT A.1 (iN u) 13 ^^^ cmM (pT A.1 (iN u) 13) (iN f) (iN t) on)) (chS A (setP1 A.1 (iN u) (cmM (pT A.1 (iN u) 13) (iN f) (iN t) on)))
def spAddO (A : AT) (u h r : Int32) : ST := if isB (pU A.1) u = false ∨ isB (pH A.1) h = false then thS 1 A else if inW (nI 1) (nI 24) r = false then thS 2 A else if 6 ≤ pO A.1 then thS 3 A else okS (nI (pO A.1)) (chS A (addO A.1 (iN u) (iN h) (iN r)))
def spRemO (A : AT) (o : Int32) : ST := if isB (pO A.1) o = false then thS 1 A else okS (nI (pO A.1 - 1)) (chS A (remO A.1 (iN o)))
def spPol (A : AT) (z : Int32) : ST := if inW (nI 0) (nI 2) z = false then thS 1 A else okS (nI (pP A.1)) (chS A (setPo A.1 (iN z)))
def spMer (A : AT) : ST := okS (mpC A.1) (chS A (setP A.1 (mpP A.1)))
/-! the calls that tell -/
def hrO (S : PS) (h : Nat) : HT := hrS S (oFd S) (fdM S) h
def spUnit (A : AT) (u k : Int32) : ST := if isB (pU A.1) u = false then thS 1 A else if inW (nI 0) (nI 14) k = false then thS 2 A else okS (if iN k = 14 then mkM (fun h => bt (fdM A.1 h) (iN u)) (pH A.1) else if iN k = 8 then nI (pBus A.1 (iN u)) else pT A.1 (iN u) (iN k)) A
def spOut (A : AT) (o k : Int32) : ST := if isB (pO A.1) o = false then thS 1 A else if inW (nI 0) (nI 4) k = false then thS 2 A else okS (if iN k = 0 then nI (pX A.1 (iN o)).1 else if iN k = 1 then nI (pX A.1 (iN o)).2.1 else if iN k = 2 then nI (pX A.1 (iN o)).2.2 else if iN k = 3 then nI (kwB A.1 (iN o)) else nI (kwE A.1 (iN o))) A
def ouF (S : PS) (u h k : Nat) : Int32 := if k = 0 then (hrO S h).2.2.1 u else if k = 1 then (hrO S h).2.2.2.1 u else if k = 2 then (hrO S h).2.2.2.2.1 u else if k = 3 then (hrO S h).2.1 u else if k = 4 then (hrO S h).2.2.2.2.2.1 u else if k = 5 then tmU S (fdM S) h u else tmR S (fdM S) h u
def spOutp (A : AT) (u h k : Int32) : ST := if isB (pU A.1) u = false ∨ isB (pH A.1) h = false then thS 1 A else if inW (nI 0) (nI 6) k = false then thS 2 A else okS (ouF A.1 (iN u) (iN h) (iN k)) A
def spDel (A : AT) (u b h : Int32) : ST := if isB (pU A.1) u = false ∨ isB (pB A.1) b = false ∨ isB (pH A.1) h = false then thS 1 A else okS ((hrO A.1 (iN h)).1.2.2 (4 * iN u + iN b)) A
def buF (S : PS) (b h k : Nat) : Int32 := if k = 0 then pD S b h else if k = 1 then (hrO S h).1.1 b else if k = 2 then (hrO S h).1.2.1 b else if k = 3 then (if b = 0 then -1 else nI (pPar S b)) else if b = 0 then nI 0 else pL S b
def spBus (A : AT) (b h k : Int32) : ST := if isB (pB A.1) b = false ∨ isB (pH A.1) h = false then thS 1 A else if inW (nI 0) (nI 4) k = false then thS 2 A else okS (buF A.1 (iN b) (iN h) (iN k)) A
def spHour (A : AT) (h k : Int32) : ST := if isB (pH A.1) h = false then thS 1 A else if inW (nI 0) (nI 7) k = false then thS 2 A else okS ((hrO A.1 (iN h)).2.2.2.2.2.2 (iN k)) A
def toK (k : Nat) : Nat := if k = 0 then 0 else if k = 1 then 1 else if k = 2 then 8 else if k = 3 then 9 else if k = 4 then 10 else if k = 5 then 4 else if k = 6 then 11 else 12
def spTot (A : AT) (k : Int32) : ST := if inW (nI 0) (nI 7) k = false then thS 1 A else okS (sI (suK A.1 (toK (iN k))) (pH A.1)) A
def viO (S : PS) : VL := viH S (oFd S) (fdM S) (pH S)
def spVc (A : AT) (k : Int32) : ST := if inW (nI 0) (nI 6) k = false then thS 1 A else okS (if iN k = 0 then nI (viO A.1).length else nI ((viO A.1).countP (fun e => e.2.1 == iN k))) A
def viE (e : Nat × Nat × Int32) (k : Nat) : Int32 := if k = 0 then nI e.1 else if k = 1 then nI e.2.1 else e.2.2
def spVi (A : AT) (i k : Int32) : ST := if i < 0 ∨ nI (viO A.1).length ≤ i then thS 1 A else if inW (nI 0) (nI 2) k = false then thS 2 A else okS (viE ((viO A.1).getD (iN i) (0, 0, 0)) (iN k)) A
/-! text, undo, snapshot -/
def spApp (A : AT) (c : Int32) : ST := if inW (nI 32) (nI 126) c = false then thS 1 A else if 100 ≤ A.2.2.2.2.1 then thS 2 A else okS (nI (A.2.2.2.2.1 + 1)) (A.1, A.2.1, A.2.2.1, (fun j => if j = A.2.2.2.2.1 then iN c else A.2.2.2.1 j), A.2.2.2.2.1 + 1, A.2.2.2.2.2)
def spErr (A : AT) : ST := if A.2.2.2.2.2 < 0 then thS 1 A else okS A.2.2.2.2.2 A
def spUndo (A : AT) : ST := if A.2.1.2 = 0 then thS 1 A else okS (nI (A.2.1.2 - 1)) (A.2.1.1 0, ((fun i => A.2.1.1 (i + 1)), A.2.1.2 - 1), A.2.2)
def spSnap (A : AT) : ST := okS (nI (pU A.1)) (A.1, A.2.1, some A.1, A.2.2.2)
def spRest (A : AT) : ST := match A.2.2.1 with
  | none => thS 1 A
  | some V => okS (nI (pU V)) (V, (A.2.1.1, 0), A.2.2)
/-! how the class's method ends -/
def fnC (Es : List String) (Q : Option Value → az_M → Prop) (Xs : String → az_M → Prop) (o : ST) (M : az_M) : Prop := match o.1 with
  | 0 => Q (some (.int o.2.1)) M
  | k + 1 => Xs (Es.getD k "") M
theorem fnC_t {Es : List String} {Q : Option Value → az_M → Prop} {Xs : String → az_M → Prop} {k : Nat} {A : AT} {M : az_M} : fnC Es Q Xs (thS (k + 1) A) M = Xs (Es.getD k "") M := rfl
theorem fnC_o {Es : List String} {Q : Option Value → az_M → Prop} {Xs : String → az_M → Prop} {x : Int32} {A : AT} {M : az_M} : fnC Es Q Xs (okS x A) M = Q (some (.int x)) M := rfl
/-- behind a change the class's memory holds the planner -/
theorem CR_chg {I I' : Nat → Nat → Int32} {A : AT} {S : PS} (hC : CR A I) (hH : HR (puH A.1 A.2.1).1 (puH A.1 A.2.1).2 I') (h9 : I' 0 9 = bI true) (hf : ∀ q j, (q = 0 ∧ j = 8 ∨ 24 ≤ q ∧ q ≤ 46 ∨ 352 ≤ q ∧ q ≤ 353) → I' q j = I q j) (hV : VS S) (hS : CS 1 S I') : CR (chS A S) I' := by
  obtain ⟨-, -, -, hsv, hT, -⟩ := hC
  refine ⟨hV, hS, hH, ⟨?_, fun V hVV => ⟨(hsv.2 V hVV).1, CS_frame (hsv.2 V hVV).1.2.2.2.1 (hsv.2 V hVV).1.2.2.2.2.1 (hsv.2 V hVV).2 (fun a j _ _ => hf _ _ (by omega))⟩⟩, XT_frame hT (fun q j _ _ => hf _ _ (by omega)), true, h9, fun z => absurd z (by decide)⟩
  rw [hf _ _ (by omega)]; exact hsv.1
