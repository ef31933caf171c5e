set_option maxRecDepth 100000
set_option maxHeartbeats 2000000
/-! the machine's count of bits is the count, below 2^24 -/
theorem and_sp {a q m M : Nat} (ha : a < 256) (hm : m < 256) : (a + 256 * q) &&& (m + 256 * M) = (a &&& m) + 256 * (q &&& M) := by
  have hl : a &&& m < 2 ^ 8 := Nat.lt_of_le_of_lt Nat.and_le_left ha
  apply Nat.eq_of_testBit_eq
  intro i
  rw [Nat.testBit_and, show a + 256 * q = 2 ^ 8 * q + a by omega, show m + 256 * M = 2 ^ 8 * M + m by omega, show (a &&& m) + 256 * (q &&& M) = 2 ^ 8 * (q &&& M) + (a &&& m) by omega, Nat.testBit_two_pow_mul_add _ ha, Nat.testBit_two_pow_mul_add _ hm, Nat.testBit_two_pow_mul_add _ hl]
  split
  · rw [Nat.testBit_and]
  · rw [Nat.testBit_and]
theorem bD1 : ∀ a, a < 256 → ∀ r, r < 2 → (a / 2 + 128 * r) &&& 85 = (a / 2) &&& 85 := by decide +kernel
theorem bD2 : ∀ a, a < 256 → ∀ r, r < 4 → (a / 4 + 64 * r) &&& 51 = (a / 4) &&& 51 := by decide +kernel
def bk1 (a : Nat) : Nat := a - ((a / 2) &&& 85)
def bk2 (a : Nat) : Nat := (a &&& 51) + ((a / 4) &&& 51)
def bk3 (a : Nat) : Nat := (a + a / 16) &&& 15
theorem bD3 : ∀ a, a < 69 → ∀ r, r < 5 → (a + a / 16 + 16 * r) &&& 15 = bk3 a := by decide +kernel
theorem bD4 : ∀ a, a < 256 → (a / 2) &&& 85 ≤ a ∧ bk1 a < 256 ∧ bk2 (bk1 a) < 69 ∧ bk2 (bk1 a) % 16 < 5 ∧ bk3 (bk2 (bk1 a)) = fb_ct (fun i => a.testBit i) 8 := by decide +kernel
theorem sp1 {a q M : Nat} (ha : a < 256) : ((a + 256 * q) / 2) &&& (85 + 256 * M) = ((a / 2) &&& 85) + 256 * ((q / 2) &&& M) := by
  rw [show (a + 256 * q) / 2 = (a / 2 + 128 * (q % 2)) + 256 * (q / 2) by omega, and_sp (by omega) (by omega), bD1 a ha _ (Nat.mod_lt _ (by omega))]
theorem sp2 {a q M : Nat} (ha : a < 256) : ((a + 256 * q) / 4) &&& (51 + 256 * M) = ((a / 4) &&& 51) + 256 * ((q / 4) &&& M) := by
  rw [show (a + 256 * q) / 4 = (a / 4 + 64 * (q % 4)) + 256 * (q / 4) by omega, and_sp (by omega) (by omega), bD2 a ha _ (Nat.mod_lt _ (by omega))]
theorem sp3 {a q M : Nat} (ha : a < 69) (hq : q % 16 < 5) : (a + 256 * q + (a + 256 * q) / 16) &&& (15 + 256 * M) = bk3 a + 256 * ((q + q / 16) &&& M) := by
  rw [show a + 256 * q + (a + 256 * q) / 16 = (a + a / 16 + 16 * (q % 16)) + 256 * (q + q / 16) by omega, and_sp (by omega) (by omega), bD3 a ha _ hq]
def bN1 (n : Nat) : Nat := n - ((n / 2) &&& 1431655765)
def bN2 (n : Nat) : Nat := (n &&& 858993459) + ((n / 4) &&& 858993459)
def bN3 (n : Nat) : Nat := (n + n / 16) &&& 252645135
theorem bN1_e {a b c : Nat} (ha : a < 256) (hb : b < 256) (hc : c < 256) : bN1 (a + 256 * (b + 256 * c)) = bk1 a + 256 * (bk1 b + 256 * bk1 c) := by
  unfold bN1
  rw [show 1431655765 = 85 + 256 * (85 + 256 * (85 + 256 * 85)) by rfl, sp1 ha, sp1 hb]
  have e : (c / 2) &&& (85 + 256 * 85) = (c / 2) &&& 85 := by
    have := sp1 (a := c) (q := 0) (M := 85) hc
    rw [Nat.mul_zero, Nat.add_zero, Nat.zero_div, Nat.zero_and, Nat.mul_zero, Nat.add_zero] at this
    exact this
  rw [e]
  have h1 := (bD4 a ha).1
  have h2 := (bD4 b hb).1
  have h3 := (bD4 c hc).1
  unfold bk1
  omega
theorem bN2_e {a b c : Nat} (ha : a < 256) (hb : b < 256) (hc : c < 256) : bN2 (a + 256 * (b + 256 * c)) = bk2 a + 256 * (bk2 b + 256 * bk2 c) := by
  unfold bN2
  rw [show 858993459 = 51 + 256 * (51 + 256 * (51 + 256 * 51)) by rfl, sp2 ha, sp2 hb, and_sp ha (by omega), and_sp hb (by omega)]
  have e : (c / 4) &&& (51 + 256 * 51) = (c / 4) &&& 51 := by
    have := sp2 (a := c) (q := 0) (M := 51) hc
    rw [Nat.mul_zero, Nat.add_zero, Nat.zero_div, Nat.zero_and, Nat.mul_zero, Nat.add_zero] at this
    exact this
  have e2 : c &&& (51 + 256 * 51) = c &&& 51 := by
    have := and_sp (a := c) (q := 0) (m := 51) (M := 51) hc (by omega)
    rw [Nat.mul_zero, Nat.add_zero, Nat.zero_and, Nat.mul_zero, Nat.add_zero] at this
    exact this
  rw [e, e2]
  unfold bk2
  omega
theorem bN3_e {a b c : Nat} (ha : a < 69) (hb : b < 69) (hc : c < 69) (hb2 : b % 16 < 5) (hc2 : c % 16 < 5) : bN3 (a + 256 * (b + 256 * c)) = bk3 a + 256 * (bk3 b + 256 * bk3 c) := by
  unfold bN3
  rw [show 252645135 = 15 + 256 * (15 + 256 * (15 + 256 * 15)) by rfl, sp3 ha (by omega), sp3 hb hc2]
  have e : (c + c / 16) &&& (15 + 256 * 15) = bk3 c := by
    have := sp3 (a := c) (q := 0) (M := 15) hc (by omega)
    rw [Nat.mul_zero, Nat.add_zero, Nat.zero_div, Nat.zero_add, Nat.zero_and, Nat.mul_zero, Nat.add_zero] at this
    exact this
  rw [e]
theorem bLast : ∀ a, a < 9 → ∀ b, b < 9 → ∀ c, c < 9 → (let z := a + 256 * (b + 256 * c) + (a + 256 * (b + 256 * c)) / 256; (z + z / 65536) &&& 63) = a + b + c := by decide +kernel
theorem n_ushr {n k : Nat} (hn : n < 2 ^ 31) (hk : k < 32) : f_ushr (nI n) (nI k) = nI (n / 2 ^ k) := by
  apply b_ext
  intro i hi
  unfold f_ushr
  rw [b_ushr k hk, bt_nI hi, ← Nat.shiftRight_eq_div_pow, Nat.testBit_shiftRight]
  rcases Nat.lt_or_ge (k + i) 32 with q | q
  · rw [bt_nI q]
  · rw [b_big q, Nat.testBit_lt_two_pow (Nat.lt_of_lt_of_le hn (Nat.pow_le_pow_right (by decide) (by omega)))]
theorem n_and {a b : Nat} : f_and (nI a) (nI b) = nI (a &&& b) := by
  apply b_ext
  intro i hi
  unfold f_and
  rw [b_and, bt_nI hi, bt_nI hi, bt_nI hi, Nat.testBit_and]
theorem fb_ct_add (p : Nat → Bool) (m : Nat) : ∀ n, fb_ct p (m + n) = fb_ct p m + fb_ct (fun i => p (m + i)) n
  | 0 => rfl
  | n + 1 => by
    show fb_ct p (m + n) + (if p (m + n) = true then 1 else 0) = fb_ct p m + (fb_ct (fun i => p (m + i)) n + (if p (m + n) = true then 1 else 0))
    rw [fb_ct_add p m n]; omega
theorem bcJ_n {n : Nat} (hn : n < 2 ^ 24) : bcJ (nI n) = nI (fb_ct (fun i => n.testBit i) 24) := by
  obtain ⟨a, b, c, ha, hb, hc, e⟩ : ∃ a b c, a < 256 ∧ b < 256 ∧ c < 256 ∧ n = a + 256 * (b + 256 * c) := ⟨n % 256, n / 256 % 256, n / 65536, by omega, by omega, by omega, by omega⟩
  obtain ⟨a1, a2, a3, a4, a5⟩ := bD4 a ha
  obtain ⟨b1, b2, b3, b4, b5⟩ := bD4 b hb
  obtain ⟨c1, c2, c3, c4, c5⟩ := bD4 c hc
  have e1 := bN1_e ha hb hc
  have e2 := bN2_e a2 b2 c2
  have e3 := bN3_e a3 b3 c3 b4 c4
  rw [← e1] at e2
  rw [← e2, ← e] at e3
  have l1 : bN1 n < 2 ^ 24 := by rw [e, e1]; omega
  have l2 : bN2 (bN1 n) < 2 ^ 24 := by rw [e, e2]; omega
  have cA := fb_ct_le (fun i => a.testBit i) 8
  have cB := fb_ct_le (fun i => b.testBit i) 8
  have cC := fb_ct_le (fun i => c.testBit i) 8
  have l3 : bN3 (bN2 (bN1 n)) < 2 ^ 24 := by rw [e3, a5, b5, c5]; omega
  have s1 : bc1 (nI n) = nI (bN1 n) := by
    unfold bc1 bN1
    rw [show (1431655765 : Int32) = nI 1431655765 from rfl, n_ushr (by omega) (by omega), n_and, nIsub (Nat.le_trans Nat.and_le_left (by omega))]
  have s2 : bc2 (nI (bN1 n)) = nI (bN2 (bN1 n)) := by
    unfold bc2 bN2
    rw [show (858993459 : Int32) = nI 858993459 from rfl, n_ushr (by omega) (by omega), n_and, n_and, nIadd]
  have s3 : bc3 (nI (bN2 (bN1 n))) = nI (bN3 (bN2 (bN1 n))) := by
    unfold bc3 bN3
    rw [show (252645135 : Int32) = nI 252645135 from rfl, n_ushr (by omega) (by omega), nIadd, n_and]
  unfold bcJ
  rw [s1, s2, s3]
  have hl := bLast (fb_ct (fun i => a.testBit i) 8) (by omega) (fb_ct (fun i => b.testBit i) 8) (by omega) (fb_ct (fun i => c.testBit i) 8) (by omega)
  rw [a5, b5, c5] at e3
  unfold bc4 bc5
  rw [e3, n_ushr (by omega) (by omega), nIadd, n_ushr (by omega) (by omega), nIadd, n_and, show (2 : Nat) ^ 8 = 256 from rfl, show (2 : Nat) ^ 16 = 65536 from rfl]
  dsimp only at hl
  rw [hl]
  congr 1
  have t1 : ∀ i, i < 8 → n.testBit i = a.testBit i := fun i hi => by
    rw [e, show a + 256 * (b + 256 * c) = 2 ^ 8 * (b + 256 * c) + a by omega, Nat.testBit_two_pow_mul_add _ ha, if_pos hi]
  have t2 : ∀ i, i < 8 → n.testBit (8 + i) = b.testBit i := fun i hi => by
    rw [e, show a + 256 * (b + 256 * c) = 2 ^ 8 * (b + 256 * c) + a by omega, Nat.testBit_two_pow_mul_add _ ha, if_neg (by omega), show b + 256 * c = 2 ^ 8 * c + b by omega, show 8 + i - 8 = i by omega, Nat.testBit_two_pow_mul_add _ hb, if_pos hi]
  have t3 : ∀ i, i < 8 → n.testBit (16 + i) = c.testBit i := fun i hi => by
    rw [e, show a + 256 * (b + 256 * c) = 2 ^ 8 * (b + 256 * c) + a by omega, Nat.testBit_two_pow_mul_add _ ha, if_neg (by omega), show b + 256 * c = 2 ^ 8 * c + b by omega, Nat.testBit_two_pow_mul_add _ hb, if_neg (by omega)]
    congr 1; omega
  rw [show 24 = 8 + 8 + 8 from rfl, fb_ct_add, fb_ct_add, fb_ct_cong t1, fb_ct_cong t2, fb_ct_cong t3]
/-- a number by its bits below 24 -/
theorem lt24 {x : Int32} (h : ∀ i, 24 ≤ i → bt x i = false) : ∃ n, n < 2 ^ 24 ∧ x = nI n := by
  refine ⟨x.toBitVec.toNat, ?_, ?_⟩
  · apply Nat.lt_pow_two_of_testBit
    intro i hi
    rw [BitVec.testBit_toNat]
    exact h i hi
  · apply b_ext
    intro i hi
    rw [bt_nI hi, BitVec.testBit_toNat]; rfl
theorem bcJ_bt {x : Int32} (h : ∀ i, 24 ≤ i → bt x i = false) : bcJ x = nI (fb_ct (fun i => bt x i) 24) := by
  obtain ⟨n, hn, rfl⟩ := lt24 h
  rw [bcJ_n hn]
  congr 1
  exact fb_ct_cong (fun i hi => (bt_nI (by omega)).symm)
