set_option maxRecDepth 100000
set_option maxHeartbeats 2000000
/-! numbers without overflow -/
theorem tI_add {x y : Int32} (h : -2147483648 ≤ x.toInt + y.toInt ∧ x.toInt + y.toInt < 2147483648) : (x + y).toInt = x.toInt + y.toInt := by
  rw [Int32.toInt_add]
  exact Int.bmod_eq_of_le (by omega) (by omega)
theorem tI_sub {x y : Int32} (h : -2147483648 ≤ x.toInt - y.toInt ∧ x.toInt - y.toInt < 2147483648) : (x - y).toInt = x.toInt - y.toInt := by
  rw [Int32.toInt_sub]
  exact Int.bmod_eq_of_le (by omega) (by omega)
theorem tI_mul {x y : Int32} (h : -2147483648 ≤ x.toInt * y.toInt ∧ x.toInt * y.toInt < 2147483648) : (x * y).toInt = x.toInt * y.toInt := by
  rw [Int32.toInt_mul]
  exact Int.bmod_eq_of_le (by omega) (by omega)
theorem tI_0 : (0 : Int32).toInt = 0 := rfl
theorem tI_n {a : Nat} (h : a < 2 ^ 31) : (nI a).toInt = a := nI_int h
theorem le_T {x y : Int32} : (x ≤ y) = (x.toInt ≤ y.toInt) := propext Int32.le_iff_toInt_le
theorem lt_T {x y : Int32} : (x < y) = (x.toInt < y.toInt) := propext Int32.lt_iff_toInt_lt
theorem mn_T {x y : Int32} : (mnI x y).toInt = if y.toInt < x.toInt then y.toInt else x.toInt := by
  unfold mnI
  by_cases h : y < x
  · rw [if_pos h, if_pos (Int32.lt_iff_toInt_lt.mp h)]
  · rw [if_neg h, if_neg (fun z => h (Int32.lt_iff_toInt_lt.mpr z))]
theorem mx_T {x y : Int32} : (mxI x y).toInt = if x.toInt < y.toInt then y.toInt else x.toInt := by
  unfold mxI
  by_cases h : x < y
  · rw [if_pos h, if_pos (Int32.lt_iff_toInt_lt.mp h)]
  · rw [if_neg h, if_neg (fun z => h (Int32.lt_iff_toInt_lt.mpr z))]
/-! the way between two buses: each line's direction -/
def anc (S : PS) : Nat → Nat → Nat → Int32
  | 0, _, _ => 0
  | n + 1, a, c => if a = 0 then 0 else (if c = a then 1 else 0) + anc S n (pPar S a) c
def drW (S : PS) (a b c : Nat) : Int32 := anc S 4 a c - anc S 4 b c
theorem anc_hi {S : PS} (hV : VS S) : ∀ {n a c : Nat}, a < 4 → a < c → anc S n a c = 0
  | 0, _, _, _, _ => rfl
  | n + 1, a, c, ha, h => by
    unfold anc
    split
    · rfl
    · have := (hV.2.2.2.2.2.2.2.2.2 a (by omega) ha).1
      rw [if_neg (by omega), anc_hi hV (by omega) (by omega)]; rfl
theorem anc_fuel {S : PS} (hV : VS S) : ∀ {n m a : Nat} (c : Nat), a < 4 → a ≤ n → a ≤ m → anc S n a c = anc S m a c
  | 0, m, a, c, h4, h1, h2 => by
    have : a = 0 := by omega
    subst this
    cases m <;> simp [anc]
  | n + 1, 0, a, c, h4, h1, h2 => by
    have : a = 0 := by omega
    subst this
    simp [anc]
  | n + 1, m + 1, a, c, h4, h1, h2 => by
    unfold anc
    split
    · rfl
    · have := (hV.2.2.2.2.2.2.2.2.2 a (by omega) h4).1
      rw [anc_fuel hV (n := n) (m := m) c (by omega) (by omega) (by omega)]
theorem anc_step {S : PS} (hV : VS S) {a c : Nat} (h0 : a ≠ 0) (h4 : a < 4) : anc S 4 a c = (if c = a then 1 else 0) + anc S 4 (pPar S a) c := by
  have := (hV.2.2.2.2.2.2.2.2.2 a (by omega) h4).1
  rw [show anc S 4 a c = if a = 0 then 0 else (if c = a then 1 else 0) + anc S 3 (pPar S a) c from rfl, if_neg h0, anc_fuel hV (n := 3) (m := 4) c (by omega) (by omega) (by omega)]
theorem anc_01 {S : PS} (hV : VS S) : ∀ {n a : Nat} (c : Nat), a < 4 → anc S n a c = 0 ∨ anc S n a c = 1
  | 0, _, _, _ => Or.inl rfl
  | n + 1, a, c, h4 => by
    unfold anc
    split
    · exact Or.inl rfl
    · have := (hV.2.2.2.2.2.2.2.2.2 a (by omega) h4).1
      by_cases e : c = a
      · rw [if_pos e, anc_hi hV (by omega) (by omega)]; exact Or.inr rfl
      · rw [if_neg e]
        rcases anc_01 hV (n := n) c (show pPar S a < 4 by omega) with q | q
        · rw [q]; exact Or.inl rfl
        · rw [q]; exact Or.inr rfl
theorem drW_3 {S : PS} (hV : VS S) {a b : Nat} (c : Nat) (ha : a < 4) (hb : b < 4) : drW S a b c = 0 ∨ drW S a b c = 1 ∨ drW S a b c = -1 := by
  unfold drW
  rcases anc_01 hV (n := 4) c ha with q | q <;> rcases anc_01 hV (n := 4) c hb with r | r <;> rw [q, r] <;> decide
theorem drW_self {S : PS} {a c : Nat} : drW S a a c = 0 := Int32.sub_self _
theorem i_ac (a b c : Int32) : a + b - c = a + (b - c) := by rw [Int32.sub_eq_add_neg, Int32.sub_eq_add_neg, Int32.add_assoc]
theorem drW_l {S : PS} (hV : VS S) {a b c : Nat} (h : b < a) (h4 : a < 4) : drW S a b c = (if c = a then 1 else 0) + drW S (pPar S a) b c := by
  unfold drW
  rw [anc_step hV (by omega) h4, i_ac]
theorem drW_r {S : PS} (hV : VS S) {a b c : Nat} (h : a < b) (h4 : b < 4) : drW S a b c = drW S a (pPar S b) c - (if c = b then 1 else 0) := by
  unfold drW
  rw [anc_step hV (by omega) h4, Int32.add_comm, ← Int32.sub_sub]
theorem drW_hi {S : PS} (hV : VS S) {a b c : Nat} (ha : a < c) (hb : b < c) (h4 : a < 4) (h5 : b < 4) : drW S a b c = 0 := by
  unfold drW
  rw [anc_hi hV h4 ha, anc_hi hV h5 hb]; rfl
/-- the walk's flows: what is still to come -/
theorem cIt_dr {S : PS} (hV : VS S) {fl : Nat → Int32} {x : Int32} {a b : Nat} (ha : a < pB S) (hb : b < pB S) : ∀ i c, (cIt S fl x a b i).2.2 c + drW S (cIt S fl x a b i).1 (cIt S fl x a b i).2.1 c * x = fl c + drW S a b c * x
  | 0, c => rfl
  | i + 1, c => by
    have ih := cIt_dr hV (fl := fl) (x := x) ha hb i c
    have hl := cIt_lt hV (fl := fl) (x := x) ha hb i
    have hB := hV.2.1.2
    show (cStep S x (cIt S fl x a b i)).2.2 c + drW S (cStep S x (cIt S fl x a b i)).1 (cStep S x (cIt S fl x a b i)).2.1 c * x = _
    rw [← ih]
    generalize cIt S fl x a b i = s at hl
    obtain ⟨a1, b1, f⟩ := s
    dsimp only at hl ⊢
    unfold cStep
    dsimp only
    by_cases e : a1 = b1
    · rw [if_pos e]
    · rw [if_neg e]
      by_cases e2 : b1 < a1
      · rw [if_pos e2, drW_l hV e2 (by omega)]
        dsimp only
        unfold va_up
        by_cases e3 : c = a1
        · rw [if_pos e3, if_pos e3, e3]
          grind
        · rw [if_neg e3, if_neg e3]
          grind
      · rw [if_neg e2, drW_r hV (show a1 < b1 by omega) (by omega)]
        dsimp only
        unfold va_up
        by_cases e3 : c = b1
        · rw [if_pos e3, if_pos e3, e3]
          grind
        · rw [if_neg e3, if_neg e3]
          grind
theorem cIt_eqs {S : PS} (hV : VS S) {fl : Nat → Int32} {x : Int32} {a b : Nat} (ha : a < pB S) (hb : b < pB S) : ∀ i, (cIt S fl x a b i).1 = (cIt S fl x a b i).2.1 ∨ (cIt S fl x a b i).1 + (cIt S fl x a b i).2.1 + i ≤ a + b
  | 0 => Or.inr (Nat.le_refl _)
  | i + 1 => by
    have ih := cIt_eqs hV (fl := fl) (x := x) ha hb i
    have hl := cIt_lt hV (fl := fl) (x := x) ha hb i
    have hB := hV.2.1.2
    show (cStep S x (cIt S fl x a b i)).1 = (cStep S x (cIt S fl x a b i)).2.1 ∨ (cStep S x (cIt S fl x a b i)).1 + (cStep S x (cIt S fl x a b i)).2.1 + (i + 1) ≤ a + b
    generalize cIt S fl x a b i = s at hl ih
    obtain ⟨a1, b1, f⟩ := s
    dsimp only at hl ih ⊢
    unfold cStep
    dsimp only
    by_cases e : a1 = b1
    · rw [if_pos e]; exact Or.inl e
    · rw [if_neg e]
      by_cases e2 : b1 < a1
      · rw [if_pos e2]
        have := (hV.2.2.2.2.2.2.2.2.2 a1 (by omega) (by omega)).1
        exact Or.inr (by dsimp only; omega)
      · rw [if_neg e2]
        have := (hV.2.2.2.2.2.2.2.2.2 b1 (by omega) (by omega)).1
        exact Or.inr (by dsimp only; omega)
theorem gCar_eq {S : PS} (hV : VS S) {fl : Nat → Int32} {x : Int32} {a b : Nat} (ha : a < pB S) (hb : b < pB S) (c : Nat) : gCar S fl a b x c = fl c + drW S a b c * x := by
  have hB := hV.2.1.2
  have h := cIt_dr hV (fl := fl) (x := x) ha hb 8 c
  have e : (cIt S fl x a b 8).1 = (cIt S fl x a b 8).2.1 := by
    rcases cIt_eqs hV (fl := fl) (x := x) ha hb 8 with q | q
    · exact q
    · omega
  rw [e, drW_self, Int32.zero_mul, Int32.add_zero] at h
  exact h
theorem gIt_eqs {S : PS} (hV : VS S) {fl : Nat → Int32} {a b : Nat} (ha : a < pB S) (hb : b < pB S) : ∀ i, (gIt S fl a b i).1 = (gIt S fl a b i).2.1 ∨ (gIt S fl a b i).1 + (gIt S fl a b i).2.1 + i ≤ a + b
  | 0 => Or.inr (Nat.le_refl _)
  | i + 1 => by
    have ih := gIt_eqs hV (fl := fl) ha hb i
    have hl := gIt_lt hV (fl := fl) ha hb i
    have hB := hV.2.1.2
    show (gStep S fl (gIt S fl a b i)).1 = (gStep S fl (gIt S fl a b i)).2.1 ∨ (gStep S fl (gIt S fl a b i)).1 + (gStep S fl (gIt S fl a b i)).2.1 + (i + 1) ≤ a + b
    generalize gIt S fl a b i = s at hl ih
    obtain ⟨a1, b1, f⟩ := s
    dsimp only at hl ih ⊢
    unfold gStep
    dsimp only
    by_cases e : a1 = b1
    · rw [if_pos e]; exact Or.inl e
    · rw [if_neg e]
      by_cases e2 : b1 < a1
      · rw [if_pos e2]
        have := (hV.2.2.2.2.2.2.2.2.2 a1 (by omega) (by omega)).1
        exact Or.inr (by dsimp only; omega)
      · rw [if_neg e2]
        have := (hV.2.2.2.2.2.2.2.2.2 b1 (by omega) (by omega)).1
        exact Or.inr (by dsimp only; omega)
/-- the room by what is still to come: a bound for it holds if it holds for the rest -/
theorem gIt_dr {S : PS} (hV : VS S) {fl : Nat → Int32} {a b : Nat} (ha : a < pB S) (hb : b < pB S) (z : Int32) : ∀ i, ((z ≤ (gIt S fl a b i).2.2 ∧ ∀ c, drW S (gIt S fl a b i).1 (gIt S fl a b i).2.1 c ≠ 0 → z ≤ pL S c - drW S (gIt S fl a b i).1 (gIt S fl a b i).2.1 c * fl c) ↔ (z ≤ 2147483647 ∧ ∀ c, drW S a b c ≠ 0 → z ≤ pL S c - drW S a b c * fl c))
  | 0 => Iff.rfl
  | i + 1 => by
    have ih := gIt_dr hV (fl := fl) ha hb z i
    have hl := gIt_lt hV (fl := fl) ha hb i
    have hB := hV.2.1.2
    rw [← ih]
    show (z ≤ (gStep S fl (gIt S fl a b i)).2.2 ∧ ∀ c, drW S (gStep S fl (gIt S fl a b i)).1 (gStep S fl (gIt S fl a b i)).2.1 c ≠ 0 → z ≤ pL S c - drW S (gStep S fl (gIt S fl a b i)).1 (gStep S fl (gIt S fl a b i)).2.1 c * fl c) ↔ _
    generalize gIt S fl a b i = s at hl
    obtain ⟨a1, b1, r⟩ := s
    dsimp only at hl ⊢
    unfold gStep
    dsimp only
    have mn : ∀ x y : Int32, z ≤ mnI x y ↔ z ≤ x ∧ z ≤ y := by
      intro x y
      rw [le_T, le_T, le_T, mn_T]
      split <;> constructor <;> intro h
      · constructor <;> omega
      · omega
      · constructor <;> omega
      · omega
    by_cases e : a1 = b1
    · rw [if_pos e]
    · rw [if_neg e]
      by_cases e2 : b1 < a1
      · rw [if_pos e2]
        dsimp only
        have hp := (hV.2.2.2.2.2.2.2.2.2 a1 (by omega) (by omega)).1
        have hd := fun c => drW_l hV (c := c) e2 (show a1 < 4 by omega)
        have h0 := drW_hi hV (a := pPar S a1) (b := b1) (c := a1) hp e2 (by omega) (by omega)
        have h1 : drW S a1 b1 a1 = 1 := by rw [hd, if_pos rfl, h0]; rfl
        have hc : ∀ c, c ≠ a1 → drW S a1 b1 c = drW S (pPar S a1) b1 c := fun c z => by rw [hd, if_neg z, Int32.zero_add]
        rw [mn]
        constructor
        · rintro ⟨⟨q1, q2⟩, q3⟩
          refine ⟨q1, fun c hc0 => ?_⟩
          by_cases z1 : c = a1
          · subst z1; rw [h1, Int32.one_mul]; exact q2
          · rw [hc c z1] at hc0 ⊢; exact q3 c hc0
        · rintro ⟨q1, q2⟩
          refine ⟨⟨q1, ?_⟩, fun c hc0 => ?_⟩
          · have := q2 a1 (by rw [h1]; decide)
            rw [h1, Int32.one_mul] at this; exact this
          · by_cases z1 : c = a1
            · subst z1; exact absurd h0 hc0
            · have := q2 c (by rw [hc c z1]; exact hc0)
              rw [hc c z1] at this; exact this
      · rw [if_neg e2]
        dsimp only
        have e3 : a1 < b1 := by omega
        have hp := (hV.2.2.2.2.2.2.2.2.2 b1 (by omega) (by omega)).1
        have hd := fun c => drW_r hV (c := c) e3 (show b1 < 4 by omega)
        have h0 := drW_hi hV (a := a1) (b := pPar S b1) (c := b1) e3 hp (by omega) (by omega)
        have h1 : drW S a1 b1 b1 = -1 := by rw [hd, if_pos rfl, h0]; rfl
        have hc : ∀ c, c ≠ b1 → drW S a1 b1 c = drW S a1 (pPar S b1) c := fun c z => by rw [hd, if_neg z, Int32.sub_zero]
        have hn : pL S b1 + fl b1 = pL S b1 - (-1) * fl b1 := by grind
        rw [mn]
        constructor
        · rintro ⟨⟨q1, q2⟩, q3⟩
          refine ⟨q1, fun c hc0 => ?_⟩
          by_cases z1 : c = b1
          · subst z1; rw [h1, ← hn]; exact q2
          · rw [hc c z1] at hc0 ⊢; exact q3 c hc0
        · rintro ⟨q1, q2⟩
          refine ⟨⟨q1, ?_⟩, fun c hc0 => ?_⟩
          · have := q2 b1 (by rw [h1]; decide)
            rw [h1, ← hn] at this; exact this
          · by_cases z1 : c = b1
            · subst z1; exact absurd h0 hc0
            · have := q2 c (by rw [hc c z1]; exact hc0)
              rw [hc c z1] at this; exact this
theorem gRoom_le {S : PS} (hV : VS S) {fl : Nat → Int32} {a b : Nat} (ha : a < pB S) (hb : b < pB S) (z : Int32) : z ≤ gRoom S fl a b ↔ ∀ c, drW S a b c ≠ 0 → z ≤ pL S c - drW S a b c * fl c := by
  have hB := hV.2.1.2
  have h := gIt_dr hV (fl := fl) ha hb z 8
  have e : (gIt S fl a b 8).1 = (gIt S fl a b 8).2.1 := by
    rcases gIt_eqs hV (fl := fl) ha hb 8 with q | q
    · exact q
    · omega
  rw [e] at h
  constructor
  · intro q
    exact (h.mp ⟨q, fun c hc => absurd drW_self hc⟩).2
  · intro q
    refine (h.mpr ⟨?_, q⟩).1
    rw [le_T]
    have := Int32.toInt_lt z
    have e2 : (2147483647 : Int32).toInt = 2147483647 := rfl
    omega
