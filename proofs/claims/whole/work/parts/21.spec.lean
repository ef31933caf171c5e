/-! ===== Int32 by its bits: bt x i ===== -/
def bt (x : Int32) (i : Nat) : Bool := x.toBitVec.getLsbD i
theorem b_ext {x y : Int32} (h : ∀ i, i < 32 → bt x i = bt y i) : x = y := Int32.toBitVec_inj.mp (BitVec.eq_of_getLsbD_eq (fun i hi => h i hi))
theorem b_or (x y : Int32) (i : Nat) : bt (x ||| y) i = (bt x i || bt y i) := by unfold bt; rw [Int32.toBitVec_or, BitVec.getLsbD_or]
theorem b_and (x y : Int32) (i : Nat) : bt (x &&& y) i = (bt x i && bt y i) := by unfold bt; rw [Int32.toBitVec_and, BitVec.getLsbD_and]
theorem b_xor (x y : Int32) (i : Nat) : bt (x ^^^ y) i = (bt x i ^^ bt y i) := by unfold bt; rw [Int32.toBitVec_xor, BitVec.getLsbD_xor]
theorem b_big {x : Int32} {i : Nat} (h : 32 ≤ i) : bt x i = false := BitVec.getLsbD_of_ge _ _ h
theorem b_255 (i : Nat) : bt 255 i = decide (i < 8) := by
  rcases Nat.lt_or_ge i 32 with h | h
  · exact (by decide +kernel : ∀ i, i < 32 → bt 255 i = decide (i < 8)) i h
  · rw [b_big h, decide_eq_false (by omega)]
theorem b_65535 (i : Nat) : bt 65535 i = decide (i < 16) := by
  rcases Nat.lt_or_ge i 32 with h | h
  · exact (by decide +kernel : ∀ i, i < 32 → bt 65535 i = decide (i < 16)) i h
  · rw [b_big h, decide_eq_false (by omega)]
theorem b_m1 : ∀ i, i < 32 → bt (-1) i = true := by decide +kernel
theorem b_0 (i : Nat) : bt 0 i = false := BitVec.getLsbD_zero
theorem s_l : ∀ n, n < 32 → ((nI n &&& 31).toBitVec.smod 32).toNat = n := by decide +kernel
theorem s_u : ∀ n, n < 32 → (((nI n).toUInt32 &&& Int32.toUInt32 31).toBitVec % 32).toNat = n := by decide +kernel
theorem b_shl (n : Nat) (hn : n < 32) (x : Int32) {i : Nat} (hi : i < 32) : bt (x <<< (nI n &&& 31)) i = (decide (n ≤ i) && bt x (i - n)) := by
  unfold bt
  rw [Int32.toBitVec_shiftLeft]
  show (x.toBitVec <<< ((nI n &&& 31).toBitVec.smod 32).toNat).getLsbD i = _
  rw [s_l n hn, BitVec.getLsbD_shiftLeft]
  rcases Nat.lt_or_ge i n with h | h
  · simp [h, Nat.not_le.mpr h]
  · simp [hi, h, Nat.not_lt.mpr h]
theorem b_ushr (n : Nat) (hn : n < 32) (x : Int32) (i : Nat) : bt ((x.toUInt32 >>> ((nI n).toUInt32 &&& Int32.toUInt32 31)).toInt32) i = bt x (n + i) := by
  show (x.toUInt32 >>> ((nI n).toUInt32 &&& Int32.toUInt32 31)).toBitVec.getLsbD i = x.toUInt32.toBitVec.getLsbD (n + i)
  rw [UInt32.toBitVec_shiftRight]
  show (x.toUInt32.toBitVec >>> (((nI n).toUInt32 &&& Int32.toUInt32 31).toBitVec % 32).toNat).getLsbD i = _
  rw [s_u n hn, BitVec.getLsbD_ushiftRight]
theorem b_sshr (n : Nat) (hn : n < 32) (x : Int32) {i : Nat} (hi : i < 32) : bt (x >>> (nI n &&& 31)) i = if n + i < 32 then bt x (n + i) else bt x 31 := by
  unfold bt
  rw [Int32.toBitVec_shiftRight]
  show (x.toBitVec.sshiftRight ((nI n &&& 31).toBitVec.smod 32).toNat).getLsbD i = _
  rw [s_l n hn, BitVec.getLsbD_sshiftRight, BitVec.msb_eq_getLsbD_last]
  simp [hi]

/-! ===== what the document says, as functions: a planner's state S, and what comes of it ===== -/
abbrev PS : Type := (Nat × Nat × Nat × Nat × Nat) × (Nat → Nat → Int32) × (Nat → Nat) × (Nat → Nat × Nat × Nat) × (Nat → Nat → Int32) × (Nat → Int32) × (Nat → Nat) × (Nat → Int32)
abbrev pH (S : PS) : Nat := S.1.1
abbrev pB (S : PS) : Nat := S.1.2.1
abbrev pP (S : PS) : Nat := S.1.2.2.1
abbrev pU (S : PS) : Nat := S.1.2.2.2.1
abbrev pO (S : PS) : Nat := S.1.2.2.2.2
abbrev pT (S : PS) : Nat → Nat → Int32 := S.2.1
abbrev pBus (S : PS) : Nat → Nat := S.2.2.1
abbrev pX (S : PS) : Nat → Nat × Nat × Nat := S.2.2.2.1
abbrev pD (S : PS) : Nat → Nat → Int32 := S.2.2.2.2.1
abbrev pR (S : PS) : Nat → Int32 := S.2.2.2.2.2.1
abbrev pPar (S : PS) : Nat → Nat := S.2.2.2.2.2.2.1
abbrev pL (S : PS) : Nat → Int32 := S.2.2.2.2.2.2.2
/-- a number between two others -/
def inI (lo hi : Int) (x : Int32) : Prop := lo ≤ x.toInt ∧ x.toInt ≤ hi
/-- what holds of every state that calls can make -/
def VS (S : PS) : Prop :=
  (1 ≤ pH S ∧ pH S ≤ 24) ∧ (1 ≤ pB S ∧ pB S ≤ 4) ∧ pP S ≤ 2 ∧ pU S ≤ 6 ∧ pO S ≤ 6 ∧
  (∀ u, u < pU S → pBus S u < pB S ∧ inI 0 10000 (pT S u 0) ∧ inI 0 10000 (pT S u 1) ∧ inI 0 10000 (pT S u 2) ∧ inI 0 24 (pT S u 3) ∧ inI 1 24 (pT S u 4) ∧ inI 1 24 (pT S u 5) ∧ inI (-24) 24 (pT S u 6) ∧ (pT S u 6).toInt ≠ 0 ∧
    ((0 < (pT S u 6).toInt ∧ (pT S u 9).toInt ≤ (pT S u 7).toInt ∧ (pT S u 7).toInt ≤ (pT S u 10).toInt) ∨ ((pT S u 6).toInt < 0 ∧ pT S u 7 = 0)) ∧
    inI 0 500 (pT S u 9) ∧ inI 1 500 (pT S u 10) ∧ (pT S u 9).toInt ≤ (pT S u 10).toInt ∧ inI 1 500 (pT S u 11) ∧ inI 0 100 (pT S u 12) ∧ (∀ i, pH S ≤ i → bt (pT S u 13) i = false)) ∧
  (∀ o, o < pO S → (pX S o).1 < pU S ∧ (pX S o).2.1 < pH S ∧ 1 ≤ (pX S o).2.2 ∧ (pX S o).2.2 ≤ 24) ∧
  (∀ c h, inI 0 500 (pD S c h)) ∧ (∀ h, inI 0 500 (pR S h)) ∧ (∀ c, 1 ≤ c → c < 4 → pPar S c < c ∧ inI 0 1000 (pL S c))
/-- the object State at the numbers b .. b + 22 holds S -/
def CS (b : Nat) (S : PS) (I : Nat → Nat → Int32) : Prop :=
  I b 0 = nI (pH S) ∧ I b 1 = nI (pB S) ∧ I b 2 = nI (pP S) ∧ I b 3 = nI (pU S) ∧ I b 4 = nI (pO S) ∧
  (∀ u k, u < pU S → k < 14 → k ≠ 8 → I (b + 2 + u) k = pT S u k) ∧ (∀ u, u < pU S → I (b + 2 + u) 8 = nI (pBus S u)) ∧
  (∀ o, o < pO S → I (b + 9 + o) 0 = nI (pX S o).1) ∧ (∀ o, o < pO S → I (b + 9 + o) 1 = nI (pX S o).2.1) ∧ (∀ o, o < pO S → I (b + 9 + o) 2 = nI (pX S o).2.2) ∧
  (∀ c h, c < 4 → h < 24 → I (b + 16 + c) h = pD S c h) ∧ (∀ h, h < 24 → I (b + 20) h = pR S h) ∧ (∀ c, 1 ≤ c → c < 4 → I (b + 21) c = nI (pPar S c)) ∧ (∀ c, 1 ≤ c → c < 4 → I (b + 22) c = pL S c)
theorem CS_frame {b : Nat} {S : PS} {I I' : Nat → Nat → Int32} (hu : pU S ≤ 6) (ho : pO S ≤ 6) (h : CS b S I) (hf : ∀ a j, b ≤ a → a ≤ b + 22 → I' a j = I a j) : CS b S I' := by
  obtain ⟨h1, h2, h3, h4, h5, h6, h7, h8, h9, h10, h11, h12, h13, h14⟩ := h
  refine ⟨?_, ?_, ?_, ?_, ?_, ?_, ?_, ?_, ?_, ?_, ?_, ?_, ?_, ?_⟩
  · rw [hf _ _ (by omega) (by omega)]; exact h1
  · rw [hf _ _ (by omega) (by omega)]; exact h2
  · rw [hf _ _ (by omega) (by omega)]; exact h3
  · rw [hf _ _ (by omega) (by omega)]; exact h4
  · rw [hf _ _ (by omega) (by omega)]; exact h5
  · intro u k hu1 hk hk8; rw [hf _ _ (by omega) (by omega)]; exact h6 u k hu1 hk hk8
  · intro u hu1; rw [hf _ _ (by omega) (by omega)]; exact h7 u hu1
  · intro u hu1; rw [hf _ _ (by omega) (by omega)]; exact h8 u hu1
  · intro u hu1; rw [hf _ _ (by omega) (by omega)]; exact h9 u hu1
  · intro u hu1; rw [hf _ _ (by omega) (by omega)]; exact h10 u hu1
  · intro c k hc hk; rw [hf _ _ (by omega) (by omega)]; exact h11 c k hc hk
  · intro k hk; rw [hf _ _ (by omega) (by omega)]; exact h12 k hk
  · intro c hc hc2; rw [hf _ _ (by omega) (by omega)]; exact h13 c hc hc2
  · intro c hc hc2; rw [hf _ _ (by omega) (by omega)]; exact h14 c hc hc2
/-- masks by their bits -/
def mkM (p : Nat → Bool) : Nat → Int32
  | 0 => 0
  | n + 1 => if p n then mkM p n ||| (nI 1 <<< (nI n &&& 31)) else mkM p n
theorem b_one {i : Nat} (hi : i < 32) : bt (nI 1) i = decide (i = 0) := (by decide +kernel : ∀ i, i < 32 → bt (nI 1) i = decide (i = 0)) i hi
theorem b_one_shl {n i : Nat} (hn : n < 32) (hi : i < 32) : bt (nI 1 <<< (nI n &&& 31)) i = decide (i = n) := by
  rw [b_shl n hn _ hi]
  rcases Nat.lt_or_ge i n with h | h
  · rw [decide_eq_false (by omega : ¬ n ≤ i), decide_eq_false (by omega : ¬ i = n)]; rfl
  · rw [decide_eq_true h, b_one (by omega), Bool.true_and]
    exact decide_eq_decide.mpr (by omega)
theorem b_mkM {p : Nat → Bool} : ∀ {n i : Nat}, n ≤ 32 → i < 32 → bt (mkM p n) i = (decide (i < n) && p i)
  | 0, i, _, _ => by rw [decide_eq_false (Nat.not_lt_zero i)]; exact b_0 i
  | n + 1, i, hn, hi => by
    have ih := b_mkM (p := p) (n := n) (i := i) (by omega) hi
    unfold mkM
    by_cases hin : i = n
    · subst hin
      split
      · rename_i hp
        rw [b_or, b_one_shl (by omega) hi, ih, hp]; simp
      · rename_i hp
        rw [ih]; simp [hp]
    · have e : decide (i < n + 1) = decide (i < n) := decide_eq_decide.mpr (by omega)
      split
      · rw [b_or, b_one_shl (by omega) hi, ih, e, decide_eq_false hin, Bool.or_false]
      · rw [ih, e]
theorem b_bit1 (x : Int32) {h : Nat} (hh : h < 31) : f_and (f_shr x (nI h)) (nI 1) = if bt x h = true then nI 1 else nI 0 := by
  rw [show nI 1 = 1 from rfl, nI_0]
  rw [show f_and (f_shr x (nI h)) 1 = f_and (f_shr x (nI h)) (nI 1) from rfl]
  apply b_ext
  intro i hi
  unfold f_and f_shr
  rw [b_and, b_one hi, b_sshr h (by omega) x hi]
  by_cases h0 : i = 0
  · subst h0
    rw [Nat.add_zero, if_pos (by omega : h < 32)]
    cases bt x h <;> decide
  · rw [decide_eq_false h0, Bool.and_false]
    cases bt x h
    · exact (b_0 i).symm
    · have := (by decide +kernel : ∀ i, i < 32 → bt 1 i = decide (i = 0)) i hi
      rw [if_pos rfl, this, decide_eq_false h0]
theorem bit_eq (p : Bool) : ((if p = true then nI 1 else nI 0) = nI 1) = (p = true) := by cases p <;> simp <;> decide
theorem bit_eq0 (p : Bool) : ((if p = true then nI 1 else nI 0) = nI 0) = (p = false) := by cases p <;> simp <;> decide
theorem bit_eqz (p : Bool) : ((if p = true then nI 1 else nI 0) = (0 : Int32)) = (p = false) := by cases p <;> simp <;> decide
theorem mkM_t {p : Nat → Bool} {n : Nat} (h : p n = true) : mkM p (n + 1) = mkM p n ||| (nI 1 <<< (nI n &&& 31)) := by
  show (if p n then _ else _) = _
  rw [if_pos h]
theorem mkM_f {p : Nat → Bool} {n : Nat} (h : ¬ p n = true) : mkM p (n + 1) = mkM p n := by
  show (if p n then _ else _) = _
  rw [if_neg h]
/-- a truth value as a number -/
def bI (b : Bool) : Int32 := if b = true then nI 1 else nI 0
theorem bI0 : bI false = nI 0 := rfl
theorem bI1 : bI true = nI 1 := rfl
theorem bIor (b : Bool) : (bI b = 0 ∨ bI b = 1) = True := by cases b <;> simp <;> decide
theorem bI_z (b : Bool) : (bI b = (0 : Int32)) = (b = false) := by cases b <;> simp <;> decide
theorem bI_1 (b : Bool) : (bI b = nI 1) = (b = true) := by cases b <;> simp <;> decide
theorem b_bitI (x : Int32) {h : Nat} (hh : h < 31) : f_and (f_shr x (nI h)) (nI 1) = bI (bt x h) := b_bit1 x hh
theorem nI1one : (nI 1 = (1 : Int32)) = True := eq_true rfl
theorem nI0one : (nI 0 = (1 : Int32)) = False := eq_false (by decide)
theorem bIfork {α : Prop} {p : Int32 → Prop} (b : Bool) (h : α = p (bI b)) : α = p (bI b) := h
theorem forkB (b : Bool) (p : Int32 → Prop) : ((b = true → p (nI 1)) ∧ (b = false → p (nI 0))) = p (bI b) := by cases b <;> simp <;> rfl
theorem forkB' (b : Bool) (p : Int32 → Prop) : ((b = false → p (nI 0)) ∧ (b = true → p (nI 1))) = p (bI b) := by cases b <;> simp <;> rfl
theorem forkP (c : Prop) (hc : Decidable c) (p : Int32 → Prop) : ((c → p (nI 0)) ∧ (¬ c → p (nI 1))) = p (bI (decide (¬ c))) := by
  by_cases h : c
  · simp [h]; rfl
  · simp [h]; rfl
/-- a planner as size makes it -/
def S0 (H B : Nat) : PS := ((H, B, 0, 0, 0), fun _ _ => 0, fun _ => 0, fun _ => (0, 0, 0), fun _ _ => 0, fun _ => 0, fun c => c - 1, fun _ => nI 100)
/-! the crew -/
def oI : Option Nat → Int32
  | none => -1
  | some h => nI h
def kwU (S : PS) (o : Nat) : Int32 := if pP S = 0 then nI (pX S o).2.1 else if pP S = 1 then nI (pX S o).2.2 else -(pT S (pX S o).1 10)
def kwN (S : PS) (bg : Nat → Option Nat) (h : Nat) : Nat → Option Nat
  | 0 => none
  | o + 1 => if bg o = none ∧ (pX S o).2.1 ≤ h then (match kwN S bg h o with
    | none => some o
    | some p => if kwU S o < kwU S p then some o else some p) else kwN S bg h o
theorem kwN_lt {S : PS} {bg : Nat → Option Nat} {h : Nat} : ∀ {n p : Nat}, kwN S bg h n = some p → p < n ∧ bg p = none ∧ (pX S p).2.1 ≤ h
  | 0, p, hp => by cases hp
  | n + 1, p, hp => by
    unfold kwN at hp
    split at hp
    · rename_i hc
      split at hp
      · cases hp
        exact ⟨by omega, hc⟩
      · rename_i q hq
        split at hp
        · cases hp; exact ⟨by omega, hc⟩
        · cases hp
          have := kwN_lt hq
          exact ⟨by omega, this.2⟩
    · have := kwN_lt hp
      exact ⟨by omega, this.2⟩
def kwS (S : PS) : Nat → (Nat → Option Nat) × Nat
  | 0 => (fun _ => none, 0)
  | h + 1 => if h < (kwS S h).2 then kwS S h else match kwN S (kwS S h).1 h (pO S) with
    | none => kwS S h
    | some o => (fun p => if p = o then some h else (kwS S h).1 p, h + (pX S o).2.2)
def kwB (S : PS) (o : Nat) : Nat := ((kwS S 168).1 o).getD 0
def kwE (S : PS) (o : Nat) : Nat := kwB S o + (pX S o).2.2 - 1
def awM (S : PS) (e : Nat → Nat) (h : Nat) : Nat → Int32
  | 0 => nI 0
  | o + 1 => if (pX S o).2.1 ≤ h ∧ h ≤ e o then f_or (awM S e h o) (f_shl (nI 1) (nI (pX S o).1)) else awM S e h o
theorem oI_ge {x : Option Nat} (h : ∀ t, x = some t → t < 2 ^ 31) : (0 ≤ oI x) = (x ≠ none) := by
  cases x with
  | none => exact propext ⟨fun z => absurd z (by decide), fun z => absurd rfl z⟩
  | some t => exact propext ⟨fun _ => Option.some_ne_none t, fun _ => nI_pos' (h t rfl)⟩
theorem oI_lt {x : Option Nat} (h : ∀ t, x = some t → t < 2 ^ 31) : (oI x < 0) = (x = none) := by
  cases x with
  | none => exact propext ⟨fun _ => rfl, fun _ => by decide⟩
  | some t => exact propext ⟨fun z => absurd z (nI_pos (h t rfl)), fun z => by cases z⟩
theorem oI_s (t : Nat) : oI (some t) = nI t := rfl
theorem oI_n : oI none = -1 := rfl
