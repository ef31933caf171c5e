set_option maxRecDepth 100000
set_option maxHeartbeats 4000000
/-! what the plans don't change -/
section
variable {S : PS} {p : Nat → Int32}
theorem P_gIt {fl : Nat → Int32} {a b : Nat} : ∀ n, gIt (setP S p) fl a b n = gIt S fl a b n
  | 0 => rfl
  | n + 1 => by
    show gStep (setP S p) fl (gIt (setP S p) fl a b n) = gStep S fl (gIt S fl a b n)
    rw [P_gIt n]; rfl
theorem P_cIt {fl : Nat → Int32} {x : Int32} {a b : Nat} : ∀ n, cIt (setP S p) fl x a b n = cIt S fl x a b n
  | 0 => rfl
  | n + 1 => by
    show cStep (setP S p) x (cIt (setP S p) fl x a b n) = cStep S x (cIt S fl x a b n)
    rw [P_cIt n]; rfl
theorem P_amt {um fl : Nat → Int32} {a b : Nat} {x : Int32} : gAmt (setP S p) um fl a b x = gAmt S um fl a b x := by
  unfold gAmt gRoom; rw [P_gIt]
theorem P_car {fl : Nat → Int32} {a b : Nat} {x : Int32} : gCar (setP S p) fl a b x = gCar S fl a b x := by
  unfold gCar; rw [P_cIt]
theorem P_give {a b : Nat} {d : DT} : dGive (setP S p) a b d = dGive S a b d := by
  unfold dGive; rw [P_amt, P_car]
theorem P_dIt {a : Nat} {d : DT} : ∀ n, dIt (setP S p) a d n = dIt S a d n
  | 0 => P_give
  | n + 1 => by
    show dStep (setP S p) a n (dIt (setP S p) a d n) = dStep S a n (dIt S a d n)
    rw [P_dIt n]
    unfold dStep
    rw [P_give]
theorem P_del {u : Nat} {x : Int32} {e : ET} : eDel (setP S p) u x e = eDel S u x e := by
  unfold eDel dAll
  rw [show pBus (setP S p) u = pBus S u from rfl, show pB (setP S p) = pB S from rfl, P_dIt]
theorem P_l1F {h : Nat} {run : Nat → Bool} {lo : Nat → Int32} : ∀ n, l1F (setP S p) h run lo n = l1F S h run lo n
  | 0 => rfl
  | n + 1 => by
    show l1S (setP S p) n (run n) (lo n) (l1F (setP S p) h run lo n) = l1S S n (run n) (lo n) (l1F S h run lo n)
    rw [P_l1F n]
    unfold l1S
    rw [P_del]
theorem P_l2F {ord : Nat → Nat} {run : Nat → Bool} {lo hi : Nat → Int32} {e : ET} : ∀ n, l2F (setP S p) ord run lo hi e n = l2F S ord run lo hi e n
  | 0 => rfl
  | n + 1 => by
    show l2S (setP S p) (ord n) (run (ord n)) _ (l2F (setP S p) ord run lo hi e n) = l2S S (ord n) (run (ord n)) _ (l2F S ord run lo hi e n)
    rw [P_l2F n]
    unfold l2S
    rw [P_del]
theorem P_lo {u : Nat} {r b : Bool} {x : Int32} : loF (setP S p) u r b x = loF S u r b x := rfl
theorem P_hi {u : Nat} {r b : Bool} {x : Int32} : hiF (setP S p) u r b x = hiF S u r b x := rfl
theorem P_sc {u : Nat} {r b : Bool} {x : Int32} : scF (setP S p) u r b x = scF S u r b x := rfl
theorem P_suU {run ub : Nat → Bool} {ou hi sp sc : Nat → Int32} {k n : Nat} : suU (setP S p) run ub ou hi sp sc k n = suU S run ub ou hi sp sc k n := rfl
theorem P_suF {h : Nat} {m : Int32} {um r : Nat → Int32} {k : Nat} : suF (setP S p) h m um r k = suF S h m um r k := rfl
theorem P_hrF {ord : Nat → Nat} {h : Nat} {m : Int32} {ub : Nat → Bool} {rs pv : Nat → Int32} : hrF (setP S p) ord h m ub rs pv = hrF S ord h m ub rs pv := by
  unfold hrF
  rw [show pU (setP S p) = pU S from rfl]
  simp only [P_lo, P_hi, P_sc, P_l1F, P_l2F, P_suU]
  rfl
theorem P_tmU {rn : Nat → Int32} : ∀ h u, tmU (setP S p) rn h u = tmU S rn h u
  | 0, u => rfl
  | h + 1, u => by
    show (if bt (rn h) u = true then tmU (setP S p) rn h u + nI 1 else nI 0) = if bt (rn h) u = true then tmU S rn h u + nI 1 else nI 0
    rw [P_tmU h u]
theorem P_tmR {rn : Nat → Int32} : ∀ h u, tmR (setP S p) rn h u = tmR S rn h u
  | 0, u => rfl
  | h + 1, u => by
    show (if bt (rn h) u = true then nI 0 else tmR (setP S p) rn h u + nI 1) = if bt (rn h) u = true then nI 0 else tmR S rn h u + nI 1
    rw [P_tmR h u]
theorem P_hrS {ord : Nat → Nat} {rn : Nat → Int32} : ∀ h, hrS (setP S p) ord rn h = hrS S ord rn h
  | 0 => by
    show hrF (setP S p) ord 0 (rn 0) (fun u => decide (0 < tmU (setP S p) rn 0 u)) (fun u => tmR (setP S p) rn 0 u) (fun u => pT (setP S p) u 7) = hrF S ord 0 (rn 0) (fun u => decide (0 < tmU S rn 0 u)) (fun u => tmR S rn 0 u) (fun u => pT S u 7)
    rw [P_hrF]; rfl
  | h + 1 => by
    show hrF (setP S p) ord (h + 1) (rn (h + 1)) (fun u => decide (0 < tmU (setP S p) rn (h + 1) u)) (fun u => tmR (setP S p) rn (h + 1) u) (hrS (setP S p) ord rn h).2.2.1 = hrF S ord (h + 1) (rn (h + 1)) (fun u => decide (0 < tmU S rn (h + 1) u)) (fun u => tmR S rn (h + 1) u) (hrS S ord rn h).2.2.1
    rw [P_hrF, P_hrS h]
    simp only [P_tmU, P_tmR]
theorem P_kwU {o : Nat} : kwU (setP S p) o = kwU S o := rfl
theorem P_kwN {bg : Nat → Option Nat} {h : Nat} : ∀ n, kwN (setP S p) bg h n = kwN S bg h n
  | 0 => rfl
  | n + 1 => by
    show (if bg n = none ∧ (pX S n).2.1 ≤ h then (match kwN (setP S p) bg h n with
      | none => some n
      | some q => if kwU S n < kwU S q then some n else some q) else kwN (setP S p) bg h n) = if bg n = none ∧ (pX S n).2.1 ≤ h then (match kwN S bg h n with
      | none => some n
      | some q => if kwU S n < kwU S q then some n else some q) else kwN S bg h n
    rw [P_kwN n]
theorem P_kwS : ∀ h, kwS (setP S p) h = kwS S h
  | 0 => rfl
  | h + 1 => by
    show (if h < (kwS (setP S p) h).2 then kwS (setP S p) h else match kwN (setP S p) (kwS (setP S p) h).1 h (pO S) with
      | none => kwS (setP S p) h
      | some o => (fun q => if q = o then some h else (kwS (setP S p) h).1 q, h + (pX S o).2.2)) = if h < (kwS S h).2 then kwS S h else match kwN S (kwS S h).1 h (pO S) with
      | none => kwS S h
      | some o => (fun q => if q = o then some h else (kwS S h).1 q, h + (pX S o).2.2)
    rw [P_kwS h, P_kwN]
theorem P_kwE {o : Nat} : kwE (setP S p) o = kwE S o := by
  unfold kwE kwB
  rw [P_kwS]; rfl
theorem P_awM {h : Nat} {e e' : Nat → Nat} (he : ∀ o, e o = e' o) : ∀ n, awM (setP S p) e h n = awM S e' h n
  | 0 => rfl
  | n + 1 => by
    show (if (pX S n).2.1 ≤ h ∧ h ≤ e n then f_or (awM (setP S p) e h n) (f_shl (nI 1) (nI (pX S n).1)) else awM (setP S p) e h n) = if (pX S n).2.1 ≤ h ∧ h ≤ e' n then f_or (awM S e' h n) (f_shl (nI 1) (nI (pX S n).1)) else awM S e' h n
    rw [P_awM he n, he n]
theorem P_aw {h : Nat} : awM (setP S p) (kwE (setP S p)) h (pO (setP S p)) = awM S (kwE S) h (pO S) := P_awM (fun _ => P_kwE) _
theorem P_oFd : oFd (setP S p) = oFd S := rfl
theorem P_br {rn : Nat → Int32} {pl aw : Int32} {h u : Nat} : brS (setP S p) rn pl aw h u = brS S rn pl aw h u := by
  unfold brS
  rw [P_tmU, P_tmR]; rfl
theorem P_tot {ord : Nat → Nat} {rn : Nat → Int32} : ∀ h, totF (setP S p) ord rn h = totF S ord rn h
  | 0 => by
    show cstF (setP S p) ord rn 0 = cstF S ord rn 0
    unfold cstF; rw [P_hrS]
  | h + 1 => by
    show cstF (setP S p) ord rn (h + 1) + totF (setP S p) ord rn h = cstF S ord rn (h + 1) + totF S ord rn h
    unfold cstF; rw [P_hrS, P_tot h]
end
/-! plans by their numbers -/
def plN (S : PS) (n u : Nat) : Int32 := mkM (fun h => n.testBit (u * pH S + h)) (pH S)
def sqN (S : PS) (n h : Nat) : Int32 := mkM (fun u => n.testBit (u * pH S + h)) (pU S)
def SN (S : PS) (n : Nat) : PS := setP S (plN S n)
def feN (S : PS) (n : Nat) : Prop := ∀ h, h < pH S → fsP S (sqN S n) h
def toN (S : PS) (n : Nat) : Int32 := totF S (oFd S) (sqN S n) (pH S - 1)
theorem VS_SN {S : PS} (hV : VS S) (n : Nat) : VS (SN S n) := VS_setP hV (fun u hu i hi => mkM_hi hV.1.2 hi)
theorem plN_bt {S : PS} (hV : VS S) {n u h : Nat} (hh : h < pH S) : bt (pT (SN S n) u 13) h = n.testBit (u * pH S + h) := by
  have hH := hV.1.2
  show bt (mkM (fun h => n.testBit (u * pH S + h)) (pH S)) h = _
  rw [b_mkM (by omega) (by omega), decide_eq_true hh, Bool.true_and]
theorem pm_SN {S : PS} (hV : VS S) {n h : Nat} (hh : h < pH S) : mkM (fun u => bt (pT (SN S n) u 13) h) (pU S) = sqN S n h := mkM_congr (fun u _ => plN_bt hV hh)
theorem brK_3 {pl aw up st re : Bool} (h : brK pl aw up st re = 0) : aw = true → pl = false := by
  intro ha
  subst ha
  cases pl
  · rfl
  · cases up <;> cases st <;> cases re <;> cases h
/-- no planned unit is away: then what is planned runs -/
theorem fd_SN {S : PS} (hV : VS S) {n h : Nat} (hh : h < pH S) (ha : ∀ u, u < pU S → bt (awM S (kwE S) h (pO S)) u = true → bt (sqN S n h) u = false) : fdM (SN S n) h = sqN S n h := by
  have hU := hV.2.2.2.1
  rw [← fdM_mk (S := SN S n) (h := h) hU]
  show mkM (fun u => bt (fdM (SN S n) h) u) (pU S) = mkM (fun u => n.testBit (u * pH S + h)) (pU S)
  refine mkM_congr (fun u hu => ?_)
  have hb : bt (sqN S n h) u = n.testBit (u * pH S + h) := by
    show bt (mkM _ (pU S)) u = _
    rw [b_mkM (by omega) (by omega), decide_eq_true hu, Bool.true_and]
  rw [fdM_bt (S := SN S n) hU hu, plN_bt hV hh, show awM (SN S n) (kwE (SN S n)) h (pO (SN S n)) = awM S (kwE S) h (pO S) from P_aw]
  cases q : bt (awM S (kwE S) h (pO S)) u
  · simp
  · have := ha u hu q
    rw [hb] at this
    rw [this]; rfl
/-- the model's plan n breaks no rule of the kinds 1 to 3 -/
def feM (S : PS) (n : Nat) : Prop := ∀ h, h < pH S → ∀ u, u < pU S → brS (SN S n) (fdM (SN S n)) (mkM (fun u => bt (pT (SN S n) u 13) h) (pU (SN S n))) (awM (SN S n) (kwE (SN S n)) h (pO (SN S n))) h u = 0
theorem fd_feM {S : PS} (hV : VS S) {n : Nat} (hf : feM S n) : ∀ h, h < pH S → fdM (SN S n) h = sqN S n h := by
  intro h hh
  refine fd_SN hV hh (fun u hu ha => ?_)
  have := hf h hh u hu
  rw [show mkM (fun u => bt (pT (SN S n) u 13) h) (pU (SN S n)) = sqN S n h from pm_SN hV hh, show awM (SN S n) (kwE (SN S n)) h (pO (SN S n)) = awM S (kwE S) h (pO S) from P_aw] at this
  exact brK_3 this ha
theorem fd_feN {S : PS} (hV : VS S) {n : Nat} (hf : feN S n) : ∀ h, h < pH S → fdM (SN S n) h = sqN S n h := by
  intro h hh
  refine fd_SN hV hh (fun u hu ha => ?_)
  exact brK_3 (hf h hh u hu) ha
theorem fe_iff {S : PS} (hV : VS S) {n : Nat} : feM S n ↔ feN S n := by
  constructor
  · intro hf h hh u hu
    have := hf h hh u hu
    rw [show mkM (fun u => bt (pT (SN S n) u 13) h) (pU (SN S n)) = sqN S n h from pm_SN hV hh, show awM (SN S n) (kwE (SN S n)) h (pO (SN S n)) = awM S (kwE S) h (pO S) from P_aw] at this
    rw [show brS (SN S n) (fdM (SN S n)) (sqN S n h) (awM S (kwE S) h (pO S)) h u = brS S (fdM (SN S n)) (sqN S n h) (awM S (kwE S) h (pO S)) h u from P_br] at this
    rw [← brS_congr (fun k hk => fd_feM hV hf k (by omega)) u]; exact this
  · intro hf h hh u hu
    have := hf h hh u hu
    rw [show mkM (fun u => bt (pT (SN S n) u 13) h) (pU (SN S n)) = sqN S n h from pm_SN hV hh, show awM (SN S n) (kwE (SN S n)) h (pO (SN S n)) = awM S (kwE S) h (pO S) from P_aw]
    rw [show brS (SN S n) (fdM (SN S n)) (sqN S n h) (awM S (kwE S) h (pO S)) h u = brS S (fdM (SN S n)) (sqN S n h) (awM S (kwE S) h (pO S)) h u from P_br]
    rw [brS_congr (fun k hk => fd_feN hV hf k (by omega)) u]; exact this
theorem tot_SN {S : PS} (hV : VS S) {n : Nat} (hf : feN S n) : totF (SN S n) (oFd (SN S n)) (fdM (SN S n)) (pH S - 1) = toN S n := by
  rw [show totF (SN S n) (oFd (SN S n)) (fdM (SN S n)) (pH S - 1) = totF S (oFd S) (fdM (SN S n)) (pH S - 1) from P_tot _]
  have hH := hV.1
  exact totF_congr (fun k hk => fd_feN hV hf k (by omega))
