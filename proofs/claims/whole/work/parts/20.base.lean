/-! PURE LEVEL: from here on nothing speaks of the machine: a method is its predicate transformer F.. -/
theorem lp_for {F : az_T → az_T} {q : Nat × Nat} (N : Nat) (σ : Nat → List (Option Value)) (μ : Nat → az_M) (hs : ∀ i, i < N → ∀ Z : az_T, Z (σ (i + 1)) [] q (μ (i + 1)) → F Z (σ i) [] q (μ i)) (hx : ∀ Z : az_T, F Z (σ N) [] q (μ N)) : s_lp F (σ 0) [] q (μ 0) := by
  have h : ∀ d : Nat, d ≤ N → (Nat.rec (motive := fun _ => az_T) (fun _ _ _ _ => False) (fun _ P => F P) (d + 1) : az_T) (σ (N - d)) [] q (μ (N - d)) := by
    intro d
    induction d with
    | zero => intro _; exact hx _
    | succ d ih =>
      intro hd
      refine hs (N - (d + 1)) (by omega) _ ?_
      rw [show N - (d + 1) + 1 = N - d by omega]
      exact ih (by omega)
  have := h N (Nat.le_refl N)
  rw [Nat.sub_self] at this
  exact ⟨N + 1, this⟩
/-- sums of numbers -/
def sI (f : Nat → Int32) : Nat → Int32
  | 0 => 0
  | n + 1 => sI f n + f n

theorem lp_mem {F : az_T → az_T} {q : Nat × Nat} (N : Nat) (σ : Nat → List (Option Value)) {K : Nat × (Nat → Nat × Nat) × (Nat → Nat → Option Nat)} {R : (Nat → Nat → Int64) × (Nat → Nat → UInt64)} (Inv : Nat → (Nat → Nat → Int32) → Prop) {I : Nat → Nat → Int32} (h0 : Inv 0 I)
    (hs : ∀ i, i < N → ∀ I : Nat → Nat → Int32, Inv i I → ∀ Z : az_T, (∀ I', Inv (i + 1) I' → Z (σ (i + 1)) [] q (K, I', R)) → F Z (σ i) [] q (K, I, R)) (hx : ∀ I : Nat → Nat → Int32, Inv N I → ∀ Z : az_T, F Z (σ N) [] q (K, I, R)) : s_lp F (σ 0) [] q (K, I, R) := by
  have h : ∀ d : Nat, d ≤ N → ∀ I, Inv (N - d) I → (Nat.rec (motive := fun _ => az_T) (fun _ _ _ _ => False) (fun _ P => F P) (d + 1) : az_T) (σ (N - d)) [] q (K, I, R) := by
    intro d
    induction d with
    | zero => intro _ I hI; exact hx I hI _
    | succ d ih =>
      intro hd I hI
      refine hs (N - (d + 1)) (by omega) I hI _ (fun I' hI' => ?_)
      rw [show N - (d + 1) + 1 = N - d by omega] at hI' ⊢
      exact ih (by omega) I' hI'
  have := h N (Nat.le_refl N) I (by rw [Nat.sub_self]; exact h0)
  rw [Nat.sub_self] at this
  exact ⟨N + 1, this⟩
/-- small rules for simp with omega as its discharger -/
theorem ltT {a b : Nat} (h : a < b) : (a < b) = True := eq_true h
theorem ltF {a b : Nat} (h : ¬ a < b) : (a < b) = False := eq_false h
theorem leT {a b : Nat} (h : a ≤ b) : (a ≤ b) = True := eq_true h
theorem leF {a b : Nat} (h : ¬ a ≤ b) : (a ≤ b) = False := eq_false h
theorem eqT {a b : Nat} (h : a = b) : (a = b) = True := eq_true h
theorem eqF {a b : Nat} (h : ¬ a = b) : (a = b) = False := eq_false h
theorem vinT {n N : Nat} (h : n < N ∧ N < 2 ^ 31) : vp_in (nI n) N = True := eq_true (vp_in_nI h.1 h.2)
theorem nIeq {a b : Nat} (h : a < 2 ^ 31 ∧ b < 2 ^ 31) : (nI a = nI b) = (a = b) := propext (nI_eq h.1 h.2)
theorem nIle {a b : Nat} (h : a < 2 ^ 31 ∧ b < 2 ^ 31) : (nI a ≤ nI b) = (a ≤ b) := propext (nI_leI h.1 h.2)
theorem nIlt {a b : Nat} (h : a < 2 ^ 31 ∧ b < 2 ^ 31) : (nI a < nI b) = (a < b) := propext (nI_ltI h.1 h.2)
theorem nIlt0' {a : Nat} (h : a < 2 ^ 31) : (nI a < nI 0) = False := by
  rw [nI_0]
  exact eq_false (nI_pos h)
theorem nIlt0 {a : Nat} (h : a < 2 ^ 31) : (nI a < 0) = False := eq_false (nI_pos h)
theorem nIge0 {a : Nat} (h : a < 2 ^ 31) : ((0 : Int32) ≤ nI a) = True := eq_true (nI_pos' h)
theorem nIgt0 {a : Nat} (h : a < 2 ^ 31) : ((0 : Int32) < nI a) = (0 < a) := by
  rw [← nI_0]
  exact nIlt ⟨by decide, h⟩
theorem nIle0 {a : Nat} (h : a < 2 ^ 31) : (nI a ≤ (0 : Int32)) = (a = 0) := by
  rw [← nI_0, nIle ⟨h, by decide⟩]
  exact propext Nat.le_zero
theorem nIeq0 {a : Nat} (h : a < 2 ^ 31) : (nI a = (0 : Int32)) = (a = 0) := by
  rw [← nI_0]
  exact nIeq ⟨h, by decide⟩
theorem nIclamp {n : Nat} (h : n < 2 ^ 31) : (nI n).toNatClampNeg = n := nI_clamp h
theorem nIadd (a b : Nat) : nI a + nI b = nI (a + b) := nI_add a b
theorem nImul (a b : Nat) : nI a * nI b = nI (a * b) := pk_mul a b
theorem nIsub {a b : Nat} (h : b ≤ a) : nI a - nI b = nI (a - b) := pk_sub h
theorem upS {f : Nat → Nat → Int32} {a j b i : Nat} {x : Int32} (h : b = a ∧ i = j) : az_up f a j x b i = x := by
  obtain ⟨rfl, rfl⟩ := h
  exact az_up_s
theorem upN {f : Nat → Nat → Int32} {a j b i : Nat} {x : Int32} (h : ¬ (b = a ∧ i = j)) : az_up f a j x b i = f b i := az_up_n h
abbrev KT : Type := Nat × (Nat → Nat × Nat) × (Nat → Nat → Option Nat)
abbrev RT : Type := (Nat → Nat → Int64) × (Nat → Nat → UInt64)
def kL : List (Nat × Nat × List (Option Nat)) := [(12, 0, [some 1, some 24, some 47, some 233, some 340, some 345, some 348, some 352, none, none]),
  (9, 0, [none, none, none, none, none, some 2, some 9, some 16, some 21, some 22, some 23]),
  (25, 6, [some 3, some 4, some 5, some 6, some 7, some 8]),
  (20, 14, []),
  (20, 14, []),
  (20, 14, []),
  (20, 14, []),
  (20, 14, []),
  (20, 14, []),
  (25, 6, [some 10, some 11, some 12, some 13, some 14, some 15]),
  (20, 3, []),
  (20, 3, []),
  (20, 3, []),
  (20, 3, []),
  (20, 3, []),
  (20, 3, []),
  (25, 4, [some 17, some 18, some 19, some 20]),
  (20, 24, []),
  (20, 24, []),
  (20, 24, []),
  (20, 24, []),
  (20, 24, []),
  (20, 4, []),
  (20, 4, []),
  (9, 0, [none, none, none, none, none, some 25, some 32, some 39, some 44, some 45, some 46]),
  (25, 6, [some 26, some 27, some 28, some 29, some 30, some 31]),
  (20, 14, []),
  (20, 14, []),
  (20, 14, []),
  (20, 14, []),
  (20, 14, []),
  (20, 14, []),
  (25, 6, [some 33, some 34, some 35, some 36, some 37, some 38]),
  (20, 3, []),
  (20, 3, []),
  (20, 3, []),
  (20, 3, []),
  (20, 3, []),
  (20, 3, []),
  (25, 4, [some 40, some 41, some 42, some 43]),
  (20, 24, []),
  (20, 24, []),
  (20, 24, []),
  (20, 24, []),
  (20, 24, []),
  (20, 4, []),
  (20, 4, []),
  (4, 0, [some 48, none, none]),
  (26, 8, [some 49, some 72, some 95, some 118, some 141, some 164, some 187, some 210]),
  (9, 0, [none, none, none, none, none, some 50, some 57, some 64, some 69, some 70, some 71]),
  (25, 6, [some 51, some 52, some 53, some 54, some 55, some 56]),
  (20, 14, []),
  (20, 14, []),
  (20, 14, []),
  (20, 14, []),
  (20, 14, []),
  (20, 14, []),
  (25, 6, [some 58, some 59, some 60, some 61, some 62, some 63]),
  (20, 3, []),
  (20, 3, []),
  (20, 3, []),
  (20, 3, []),
  (20, 3, []),
  (20, 3, []),
  (25, 4, [some 65, some 66, some 67, some 68]),
  (20, 24, []),
  (20, 24, []),
  (20, 24, []),
  (20, 24, []),
  (20, 24, []),
  (20, 4, []),
  (20, 4, []),
  (9, 0, [none, none, none, none, none, some 73, some 80, some 87, some 92, some 93, some 94]),
  (25, 6, [some 74, some 75, some 76, some 77, some 78, some 79]),
  (20, 14, []),
  (20, 14, []),
  (20, 14, []),
  (20, 14, []),
  (20, 14, []),
  (20, 14, []),
  (25, 6, [some 81, some 82, some 83, some 84, some 85, some 86]),
  (20, 3, []),
  (20, 3, []),
  (20, 3, []),
  (20, 3, []),
  (20, 3, []),
  (20, 3, []),
  (25, 4, [some 88, some 89, some 90, some 91]),
  (20, 24, []),
  (20, 24, []),
  (20, 24, []),
  (20, 24, []),
  (20, 24, []),
  (20, 4, []),
  (20, 4, []),
  (9, 0, [none, none, none, none, none, some 96, some 103, some 110, some 115, some 116, some 117]),
  (25, 6, [some 97, some 98, some 99, some 100, some 101, some 102]),
  (20, 14, []),
  (20, 14, []),
  (20, 14, []),
  (20, 14, []),
  (20, 14, []),
  (20, 14, []),
  (25, 6, [some 104, some 105, some 106, some 107, some 108, some 109]),
  (20, 3, []),
  (20, 3, []),
  (20, 3, []),
  (20, 3, []),
  (20, 3, []),
  (20, 3, []),
  (25, 4, [some 111, some 112, some 113, some 114]),
  (20, 24, []),
  (20, 24, []),
  (20, 24, []),
  (20, 24, []),
  (20, 24, []),
  (20, 4, []),
  (20, 4, []),
  (9, 0, [none, none, none, none, none, some 119, some 126, some 133, some 138, some 139, some 140]),
  (25, 6, [some 120, some 121, some 122, some 123, some 124, some 125]),
  (20, 14, []),
  (20, 14, []),
  (20, 14, []),
  (20, 14, []),
  (20, 14, []),
  (20, 14, []),
  (25, 6, [some 127, some 128, some 129, some 130, some 131, some 132]),
  (20, 3, []),
  (20, 3, []),
  (20, 3, []),
  (20, 3, []),
  (20, 3, []),
  (20, 3, []),
  (25, 4, [some 134, some 135, some 136, some 137]),
  (20, 24, []),
  (20, 24, []),
  (20, 24, []),
  (20, 24, []),
  (20, 24, []),
  (20, 4, []),
  (20, 4, []),
  (9, 0, [none, none, none, none, none, some 142, some 149, some 156, some 161, some 162, some 163]),
  (25, 6, [some 143, some 144, some 145, some 146, some 147, some 148]),
  (20, 14, []),
  (20, 14, []),
  (20, 14, []),
  (20, 14, []),
  (20, 14, []),
  (20, 14, []),
  (25, 6, [some 150, some 151, some 152, some 153, some 154, some 155]),
  (20, 3, []),
  (20, 3, []),
  (20, 3, []),
  (20, 3, []),
  (20, 3, []),
  (20, 3, []),
  (25, 4, [some 157, some 158, some 159, some 160]),
  (20, 24, []),
  (20, 24, []),
  (20, 24, []),
  (20, 24, []),
  (20, 24, []),
  (20, 4, []),
  (20, 4, []),
  (9, 0, [none, none, none, none, none, some 165, some 172, some 179, some 184, some 185, some 186]),
  (25, 6, [some 166, some 167, some 168, some 169, some 170, some 171]),
  (20, 14, []),
  (20, 14, []),
  (20, 14, []),
  (20, 14, []),
  (20, 14, []),
  (20, 14, []),
  (25, 6, [some 173, some 174, some 175, some 176, some 177, some 178]),
  (20, 3, []),
  (20, 3, []),
  (20, 3, []),
  (20, 3, []),
  (20, 3, []),
  (20, 3, []),
  (25, 4, [some 180, some 181, some 182, some 183]),
  (20, 24, []),
  (20, 24, []),
  (20, 24, []),
  (20, 24, []),
  (20, 24, []),
  (20, 4, []),
  (20, 4, []),
  (9, 0, [none, none, none, none, none, some 188, some 195, some 202, some 207, some 208, some 209]),
  (25, 6, [some 189, some 190, some 191, some 192, some 193, some 194]),
  (20, 14, []),
  (20, 14, []),
  (20, 14, []),
  (20, 14, []),
  (20, 14, []),
  (20, 14, []),
  (25, 6, [some 196, some 197, some 198, some 199, some 200, some 201]),
  (20, 3, []),
  (20, 3, []),
  (20, 3, []),
  (20, 3, []),
  (20, 3, []),
  (20, 3, []),
  (25, 4, [some 203, some 204, some 205, some 206]),
  (20, 24, []),
  (20, 24, []),
  (20, 24, []),
  (20, 24, []),
  (20, 24, []),
  (20, 4, []),
  (20, 4, []),
  (9, 0, [none, none, none, none, none, some 211, some 218, some 225, some 230, some 231, some 232]),
  (25, 6, [some 212, some 213, some 214, some 215, some 216, some 217]),
  (20, 14, []),
  (20, 14, []),
  (20, 14, []),
  (20, 14, []),
  (20, 14, []),
  (20, 14, []),
  (25, 6, [some 219, some 220, some 221, some 222, some 223, some 224]),
  (20, 3, []),
  (20, 3, []),
  (20, 3, []),
  (20, 3, []),
  (20, 3, []),
  (20, 3, []),
  (25, 4, [some 226, some 227, some 228, some 229]),
  (20, 24, []),
  (20, 24, []),
  (20, 24, []),
  (20, 24, []),
  (20, 24, []),
  (20, 4, []),
  (20, 4, []),
  (6, 0, [some 234, some 238, some 254, some 290, some 297, some 304, some 311, some 318, some 325, some 339]),
  (2, 0, [some 235, some 236, some 237]),
  (20, 6, []),
  (20, 6, []),
  (20, 24, []),
  (10, 0, [some 239, some 240, some 247]),
  (20, 24, []),
  (25, 6, [some 241, some 242, some 243, some 244, some 245, some 246]),
  (20, 24, []),
  (20, 24, []),
  (20, 24, []),
  (20, 24, []),
  (20, 24, []),
  (20, 24, []),
  (25, 6, [some 248, some 249, some 250, some 251, some 252, some 253]),
  (20, 24, []),
  (20, 24, []),
  (20, 24, []),
  (20, 24, []),
  (20, 24, []),
  (20, 24, []),
  (3, 0, [some 255, some 260, some 265]),
  (25, 4, [some 256, some 257, some 258, some 259]),
  (20, 24, []),
  (20, 24, []),
  (20, 24, []),
  (20, 24, []),
  (25, 4, [some 261, some 262, some 263, some 264]),
  (20, 24, []),
  (20, 24, []),
  (20, 24, []),
  (20, 24, []),
  (25, 24, [some 266, some 267, some 268, some 269, some 270, some 271, some 272, some 273, some 274, some 275, some 276, some 277, some 278, some 279, some 280, some 281, some 282, some 283, some 284, some 285, some 286, some 287, some 288, some 289]),
  (20, 24, []),
  (20, 24, []),
  (20, 24, []),
  (20, 24, []),
  (20, 24, []),
  (20, 24, []),
  (20, 24, []),
  (20, 24, []),
  (20, 24, []),
  (20, 24, []),
  (20, 24, []),
  (20, 24, []),
  (20, 24, []),
  (20, 24, []),
  (20, 24, []),
  (20, 24, []),
  (20, 24, []),
  (20, 24, []),
  (20, 24, []),
  (20, 24, []),
  (20, 24, []),
  (20, 24, []),
  (20, 24, []),
  (20, 24, []),
  (25, 6, [some 291, some 292, some 293, some 294, some 295, some 296]),
  (20, 24, []),
  (20, 24, []),
  (20, 24, []),
  (20, 24, []),
  (20, 24, []),
  (20, 24, []),
  (25, 6, [some 298, some 299, some 300, some 301, some 302, some 303]),
  (20, 24, []),
  (20, 24, []),
  (20, 24, []),
  (20, 24, []),
  (20, 24, []),
  (20, 24, []),
  (25, 6, [some 305, some 306, some 307, some 308, some 309, some 310]),
  (20, 24, []),
  (20, 24, []),
  (20, 24, []),
  (20, 24, []),
  (20, 24, []),
  (20, 24, []),
  (25, 6, [some 312, some 313, some 314, some 315, some 316, some 317]),
  (20, 24, []),
  (20, 24, []),
  (20, 24, []),
  (20, 24, []),
  (20, 24, []),
  (20, 24, []),
  (25, 6, [some 319, some 320, some 321, some 322, some 323, some 324]),
  (20, 24, []),
  (20, 24, []),
  (20, 24, []),
  (20, 24, []),
  (20, 24, []),
  (20, 24, []),
  (25, 13, [some 326, some 327, some 328, some 329, some 330, some 331, some 332, some 333, some 334, some 335, some 336, some 337, some 338]),
  (20, 24, []),
  (20, 24, []),
  (20, 24, []),
  (20, 24, []),
  (20, 24, []),
  (20, 24, []),
  (20, 24, []),
  (20, 24, []),
  (20, 24, []),
  (20, 24, []),
  (20, 24, []),
  (20, 24, []),
  (20, 24, []),
  (20, 6, []),
  (11, 0, [some 341, some 342, some 343, some 344, none]),
  (20, 216, []),
  (20, 216, []),
  (20, 216, []),
  (20, 7, []),
  (5, 0, [some 346, some 347]),
  (20, 6, []),
  (20, 6, []),
  (8, 0, [some 349, some 350, some 351, none, none, none]),
  (20, 24, []),
  (20, 24, []),
  (20, 24, []),
  (7, 0, [some 353, none, none]),
  (22, 100, []),
  (13, 0, [some 355, some 356, none, some 357, none, none, some 358, none, some 359, some 360, some 361, some 362, some 363, some 364, some 365, some 366, some 367, some 368, some 369, some 370, some 371, some 372, some 373, none, some 374, some 375, none, none, none, none, some 376, some 377, none]),
  (20, 235, []),
  (20, 235, []),
  (20, 1880, []),
  (20, 6, []),
  (21, 144, []),
  (21, 144, []),
  (20, 144, []),
  (20, 144, []),
  (20, 144, []),
  (20, 144, []),
  (20, 144, []),
  (20, 144, []),
  (20, 144, []),
  (20, 576, []),
  (20, 96, []),
  (20, 96, []),
  (20, 4, []),
  (21, 6, []),
  (20, 1512, []),
  (20, 6, []),
  (22, 100, []),
  (20, 100, []),
  (20, 100, []),
  (23, 1, []),
  (24, 1, [])]
def K0 : KT := (380, fun a => match kL[a]? with
  | some q => (q.1, q.2.1)
  | none => (0, 0), fun a j => match kL[a]? with
  | some q => match q.2.2[j]? with
    | some r => r
    | none => none
  | none => none)
theorem k_n : K0.1 = 380 := rfl
theorem k_s_0 : K0.2.1 0 = (12, 0) := by decide +kernel
theorem k_f_0_0 : K0.2.2 0 0 = some 1 := by decide +kernel
theorem k_f_0_1 : K0.2.2 0 1 = some 24 := by decide +kernel
theorem k_f_0_2 : K0.2.2 0 2 = some 47 := by decide +kernel
theorem k_f_0_3 : K0.2.2 0 3 = some 233 := by decide +kernel
theorem k_f_0_4 : K0.2.2 0 4 = some 340 := by decide +kernel
theorem k_f_0_5 : K0.2.2 0 5 = some 345 := by decide +kernel
theorem k_f_0_6 : K0.2.2 0 6 = some 348 := by decide +kernel
theorem k_f_0_7 : K0.2.2 0 7 = some 352 := by decide +kernel
theorem k_s_47 : K0.2.1 47 = (4, 0) := by decide +kernel
theorem k_f_47_0 : K0.2.2 47 0 = some 48 := by decide +kernel
theorem k_s_48 : K0.2.1 48 = (26, 8) := by decide +kernel
theorem k_r_48 : ∀ u, u < 8 → K0.2.2 48 u = some (49 + 23 * u) := by decide +kernel
theorem k_s_233 : K0.2.1 233 = (6, 0) := by decide +kernel
theorem k_f_233_0 : K0.2.2 233 0 = some 234 := by decide +kernel
theorem k_f_233_1 : K0.2.2 233 1 = some 238 := by decide +kernel
theorem k_f_233_2 : K0.2.2 233 2 = some 254 := by decide +kernel
theorem k_f_233_3 : K0.2.2 233 3 = some 290 := by decide +kernel
theorem k_f_233_4 : K0.2.2 233 4 = some 297 := by decide +kernel
theorem k_f_233_5 : K0.2.2 233 5 = some 304 := by decide +kernel
theorem k_f_233_6 : K0.2.2 233 6 = some 311 := by decide +kernel
theorem k_f_233_7 : K0.2.2 233 7 = some 318 := by decide +kernel
theorem k_f_233_8 : K0.2.2 233 8 = some 325 := by decide +kernel
theorem k_f_233_9 : K0.2.2 233 9 = some 339 := by decide +kernel
theorem k_s_234 : K0.2.1 234 = (2, 0) := by decide +kernel
theorem k_f_234_0 : K0.2.2 234 0 = some 235 := by decide +kernel
theorem k_f_234_1 : K0.2.2 234 1 = some 236 := by decide +kernel
theorem k_f_234_2 : K0.2.2 234 2 = some 237 := by decide +kernel
theorem k_s_235 : K0.2.1 235 = (20, 6) := by decide +kernel
theorem k_s_236 : K0.2.1 236 = (20, 6) := by decide +kernel
theorem k_s_237 : K0.2.1 237 = (20, 24) := by decide +kernel
theorem k_s_238 : K0.2.1 238 = (10, 0) := by decide +kernel
theorem k_f_238_0 : K0.2.2 238 0 = some 239 := by decide +kernel
theorem k_f_238_1 : K0.2.2 238 1 = some 240 := by decide +kernel
theorem k_f_238_2 : K0.2.2 238 2 = some 247 := by decide +kernel
theorem k_s_239 : K0.2.1 239 = (20, 24) := by decide +kernel
theorem k_s_240 : K0.2.1 240 = (25, 6) := by decide +kernel
theorem k_r_240 : ∀ u, u < 6 → K0.2.2 240 u = some (241 + u) := by decide +kernel
theorem k_t_240 : ∀ u, u < 6 → K0.2.1 (241 + u) = (20, 24) := by decide +kernel
theorem k_s_247 : K0.2.1 247 = (25, 6) := by decide +kernel
theorem k_r_247 : ∀ u, u < 6 → K0.2.2 247 u = some (248 + u) := by decide +kernel
theorem k_t_247 : ∀ u, u < 6 → K0.2.1 (248 + u) = (20, 24) := by decide +kernel
theorem k_s_254 : K0.2.1 254 = (3, 0) := by decide +kernel
theorem k_f_254_0 : K0.2.2 254 0 = some 255 := by decide +kernel
theorem k_f_254_1 : K0.2.2 254 1 = some 260 := by decide +kernel
theorem k_f_254_2 : K0.2.2 254 2 = some 265 := by decide +kernel
theorem k_s_255 : K0.2.1 255 = (25, 4) := by decide +kernel
theorem k_r_255 : ∀ u, u < 4 → K0.2.2 255 u = some (256 + u) := by decide +kernel
theorem k_t_255 : ∀ u, u < 4 → K0.2.1 (256 + u) = (20, 24) := by decide +kernel
theorem k_s_260 : K0.2.1 260 = (25, 4) := by decide +kernel
theorem k_r_260 : ∀ u, u < 4 → K0.2.2 260 u = some (261 + u) := by decide +kernel
theorem k_t_260 : ∀ u, u < 4 → K0.2.1 (261 + u) = (20, 24) := by decide +kernel
theorem k_s_265 : K0.2.1 265 = (25, 24) := by decide +kernel
theorem k_r_265 : ∀ u, u < 24 → K0.2.2 265 u = some (266 + u) := by decide +kernel
theorem k_t_265 : ∀ u, u < 24 → K0.2.1 (266 + u) = (20, 24) := by decide +kernel
theorem k_s_290 : K0.2.1 290 = (25, 6) := by decide +kernel
theorem k_r_290 : ∀ u, u < 6 → K0.2.2 290 u = some (291 + u) := by decide +kernel
theorem k_t_290 : ∀ u, u < 6 → K0.2.1 (291 + u) = (20, 24) := by decide +kernel
theorem k_s_297 : K0.2.1 297 = (25, 6) := by decide +kernel
theorem k_r_297 : ∀ u, u < 6 → K0.2.2 297 u = some (298 + u) := by decide +kernel
theorem k_t_297 : ∀ u, u < 6 → K0.2.1 (298 + u) = (20, 24) := by decide +kernel
theorem k_s_304 : K0.2.1 304 = (25, 6) := by decide +kernel
theorem k_r_304 : ∀ u, u < 6 → K0.2.2 304 u = some (305 + u) := by decide +kernel
theorem k_t_304 : ∀ u, u < 6 → K0.2.1 (305 + u) = (20, 24) := by decide +kernel
theorem k_s_311 : K0.2.1 311 = (25, 6) := by decide +kernel
theorem k_r_311 : ∀ u, u < 6 → K0.2.2 311 u = some (312 + u) := by decide +kernel
theorem k_t_311 : ∀ u, u < 6 → K0.2.1 (312 + u) = (20, 24) := by decide +kernel
theorem k_s_318 : K0.2.1 318 = (25, 6) := by decide +kernel
theorem k_r_318 : ∀ u, u < 6 → K0.2.2 318 u = some (319 + u) := by decide +kernel
theorem k_t_318 : ∀ u, u < 6 → K0.2.1 (319 + u) = (20, 24) := by decide +kernel
theorem k_s_325 : K0.2.1 325 = (25, 13) := by decide +kernel
theorem k_r_325 : ∀ u, u < 13 → K0.2.2 325 u = some (326 + u) := by decide +kernel
theorem k_t_325 : ∀ u, u < 13 → K0.2.1 (326 + u) = (20, 24) := by decide +kernel
theorem k_s_339 : K0.2.1 339 = (20, 6) := by decide +kernel
theorem k_s_340 : K0.2.1 340 = (11, 0) := by decide +kernel
theorem k_f_340_0 : K0.2.2 340 0 = some 341 := by decide +kernel
theorem k_f_340_1 : K0.2.2 340 1 = some 342 := by decide +kernel
theorem k_f_340_2 : K0.2.2 340 2 = some 343 := by decide +kernel
theorem k_f_340_3 : K0.2.2 340 3 = some 344 := by decide +kernel
theorem k_s_341 : K0.2.1 341 = (20, 216) := by decide +kernel
theorem k_s_342 : K0.2.1 342 = (20, 216) := by decide +kernel
theorem k_s_343 : K0.2.1 343 = (20, 216) := by decide +kernel
theorem k_s_344 : K0.2.1 344 = (20, 7) := by decide +kernel
theorem k_s_345 : K0.2.1 345 = (5, 0) := by decide +kernel
theorem k_f_345_0 : K0.2.2 345 0 = some 346 := by decide +kernel
theorem k_f_345_1 : K0.2.2 345 1 = some 347 := by decide +kernel
theorem k_s_346 : K0.2.1 346 = (20, 6) := by decide +kernel
theorem k_s_347 : K0.2.1 347 = (20, 6) := by decide +kernel
theorem k_s_348 : K0.2.1 348 = (8, 0) := by decide +kernel
theorem k_f_348_0 : K0.2.2 348 0 = some 349 := by decide +kernel
theorem k_f_348_1 : K0.2.2 348 1 = some 350 := by decide +kernel
theorem k_f_348_2 : K0.2.2 348 2 = some 351 := by decide +kernel
theorem k_s_349 : K0.2.1 349 = (20, 24) := by decide +kernel
theorem k_s_350 : K0.2.1 350 = (20, 24) := by decide +kernel
theorem k_s_351 : K0.2.1 351 = (20, 24) := by decide +kernel
theorem k_s_352 : K0.2.1 352 = (7, 0) := by decide +kernel
theorem k_f_352_0 : K0.2.2 352 0 = some 353 := by decide +kernel
theorem k_s_353 : K0.2.1 353 = (22, 100) := by decide +kernel
theorem k_s_354 : K0.2.1 354 = (13, 0) := by decide +kernel
theorem k_f_354_0 : K0.2.2 354 0 = some 355 := by decide +kernel
theorem k_f_354_1 : K0.2.2 354 1 = some 356 := by decide +kernel
theorem k_f_354_3 : K0.2.2 354 3 = some 357 := by decide +kernel
theorem k_f_354_6 : K0.2.2 354 6 = some 358 := by decide +kernel
theorem k_f_354_8 : K0.2.2 354 8 = some 359 := by decide +kernel
theorem k_f_354_9 : K0.2.2 354 9 = some 360 := by decide +kernel
theorem k_f_354_10 : K0.2.2 354 10 = some 361 := by decide +kernel
theorem k_f_354_11 : K0.2.2 354 11 = some 362 := by decide +kernel
theorem k_f_354_12 : K0.2.2 354 12 = some 363 := by decide +kernel
theorem k_f_354_13 : K0.2.2 354 13 = some 364 := by decide +kernel
theorem k_f_354_14 : K0.2.2 354 14 = some 365 := by decide +kernel
theorem k_f_354_15 : K0.2.2 354 15 = some 366 := by decide +kernel
theorem k_f_354_16 : K0.2.2 354 16 = some 367 := by decide +kernel
theorem k_f_354_17 : K0.2.2 354 17 = some 368 := by decide +kernel
theorem k_f_354_18 : K0.2.2 354 18 = some 369 := by decide +kernel
theorem k_f_354_19 : K0.2.2 354 19 = some 370 := by decide +kernel
theorem k_f_354_20 : K0.2.2 354 20 = some 371 := by decide +kernel
theorem k_f_354_21 : K0.2.2 354 21 = some 372 := by decide +kernel
theorem k_f_354_22 : K0.2.2 354 22 = some 373 := by decide +kernel
theorem k_f_354_24 : K0.2.2 354 24 = some 374 := by decide +kernel
theorem k_f_354_25 : K0.2.2 354 25 = some 375 := by decide +kernel
theorem k_f_354_30 : K0.2.2 354 30 = some 376 := by decide +kernel
theorem k_f_354_31 : K0.2.2 354 31 = some 377 := by decide +kernel
theorem k_s_355 : K0.2.1 355 = (20, 235) := by decide +kernel
theorem k_s_356 : K0.2.1 356 = (20, 235) := by decide +kernel
theorem k_s_357 : K0.2.1 357 = (20, 1880) := by decide +kernel
theorem k_s_358 : K0.2.1 358 = (20, 6) := by decide +kernel
theorem k_s_359 : K0.2.1 359 = (21, 144) := by decide +kernel
theorem k_s_360 : K0.2.1 360 = (21, 144) := by decide +kernel
theorem k_s_361 : K0.2.1 361 = (20, 144) := by decide +kernel
theorem k_s_362 : K0.2.1 362 = (20, 144) := by decide +kernel
theorem k_s_363 : K0.2.1 363 = (20, 144) := by decide +kernel
theorem k_s_364 : K0.2.1 364 = (20, 144) := by decide +kernel
theorem k_s_365 : K0.2.1 365 = (20, 144) := by decide +kernel
theorem k_s_366 : K0.2.1 366 = (20, 144) := by decide +kernel
theorem k_s_367 : K0.2.1 367 = (20, 144) := by decide +kernel
theorem k_s_368 : K0.2.1 368 = (20, 576) := by decide +kernel
theorem k_s_369 : K0.2.1 369 = (20, 96) := by decide +kernel
theorem k_s_370 : K0.2.1 370 = (20, 96) := by decide +kernel
theorem k_s_371 : K0.2.1 371 = (20, 4) := by decide +kernel
theorem k_s_372 : K0.2.1 372 = (21, 6) := by decide +kernel
theorem k_s_373 : K0.2.1 373 = (20, 1512) := by decide +kernel
theorem k_s_374 : K0.2.1 374 = (20, 6) := by decide +kernel
theorem k_s_375 : K0.2.1 375 = (22, 100) := by decide +kernel
theorem k_s_376 : K0.2.1 376 = (20, 100) := by decide +kernel
theorem k_s_377 : K0.2.1 377 = (20, 100) := by decide +kernel
theorem k_s_378 : K0.2.1 378 = (23, 1) := by decide +kernel
theorem k_s_379 : K0.2.1 379 = (24, 1) := by decide +kernel
/-- the shape of a state that lies at the numbers b .. b + 22 -/
def StK (K : KT) (b : Nat) : Prop :=
  b + 22 < K.1 ∧ K.2.1 b = (9, 0) ∧ K.2.2 b 5 = some (b + 1) ∧ K.2.2 b 6 = some (b + 8) ∧ K.2.2 b 7 = some (b + 15) ∧ K.2.2 b 8 = some (b + 20) ∧ K.2.2 b 9 = some (b + 21) ∧ K.2.2 b 10 = some (b + 22) ∧
  K.2.1 (b + 1) = (25, 6) ∧ K.2.1 (b + 8) = (25, 6) ∧ K.2.1 (b + 15) = (25, 4) ∧ K.2.1 (b + 20) = (20, 24) ∧ K.2.1 (b + 21) = (20, 4) ∧ K.2.1 (b + 22) = (20, 4) ∧
  (∀ u, u < 6 → K.2.2 (b + 1) u = some (b + 2 + u)) ∧ (∀ u, u < 6 → K.2.1 (b + 2 + u) = (20, 14)) ∧ (∀ u, u < 6 → K.2.2 (b + 8) u = some (b + 9 + u)) ∧ (∀ u, u < 6 → K.2.1 (b + 9 + u) = (20, 3)) ∧ (∀ u, u < 4 → K.2.2 (b + 15) u = some (b + 16 + u)) ∧ (∀ u, u < 4 → K.2.1 (b + 16 + u) = (20, 24))
theorem k_st1 : StK K0 1 := by unfold StK; decide +kernel
theorem k_st24 : StK K0 24 := by unfold StK; decide +kernel
theorem k_stR (i : Nat) (hi : i < 8) : StK K0 (49 + 23 * i) := by
  have h : i = 0 ∨ i = 1 ∨ i = 2 ∨ i = 3 ∨ i = 4 ∨ i = 5 ∨ i = 6 ∨ i = 7 := by omega
  rcases h with rfl | rfl | rfl | rfl | rfl | rfl | rfl | rfl <;> (unfold StK; decide +kernel)
theorem k_s_1 : K0.2.1 1 = (9, 0) := by decide +kernel
theorem k_s_2 : K0.2.1 2 = (25, 6) := by decide +kernel
theorem k_s_9 : K0.2.1 9 = (25, 6) := by decide +kernel
theorem k_s_16 : K0.2.1 16 = (25, 4) := by decide +kernel
theorem k_s_21 : K0.2.1 21 = (20, 24) := by decide +kernel
theorem k_s_22 : K0.2.1 22 = (20, 4) := by decide +kernel
theorem k_s_23 : K0.2.1 23 = (20, 4) := by decide +kernel
theorem k_f_1_5 : K0.2.2 1 5 = some 2 := by decide +kernel
theorem k_f_1_6 : K0.2.2 1 6 = some 9 := by decide +kernel
theorem k_f_1_7 : K0.2.2 1 7 = some 16 := by decide +kernel
theorem k_f_1_8 : K0.2.2 1 8 = some 21 := by decide +kernel
theorem k_f_1_9 : K0.2.2 1 9 = some 22 := by decide +kernel
theorem k_f_1_10 : K0.2.2 1 10 = some 23 := by decide +kernel
theorem k_r_2 : ∀ u, u < 6 → K0.2.2 2 u = some (3 + u) := by decide +kernel
theorem k_t_2 : ∀ u, u < 6 → K0.2.1 (3 + u) = (20, 14) := by decide +kernel
theorem k_r_9 : ∀ u, u < 6 → K0.2.2 9 u = some (10 + u) := by decide +kernel
theorem k_t_9 : ∀ u, u < 6 → K0.2.1 (10 + u) = (20, 3) := by decide +kernel
theorem k_r_16 : ∀ u, u < 4 → K0.2.2 16 u = some (17 + u) := by decide +kernel
theorem k_t_16 : ∀ u, u < 4 → K0.2.1 (17 + u) = (20, 24) := by decide +kernel
