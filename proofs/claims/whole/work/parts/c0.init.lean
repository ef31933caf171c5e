set_option maxRecDepth 100000
set_option maxHeartbeats 1000000
/-- a new planner -/
def A0 : AT := (S0 6 1, (fun _ => S0 6 1, 0), none, (fun _ => 0), 0, -1)
theorem i_CR {I I' : Nat → Nat → Int32} (hV : VS (S0 6 1)) (h : newI I I') : CR A0 I' := by
  obtain ⟨h1, h2, h3, ⟨h4, h5⟩, h6, h7, -⟩ := h
  exact ⟨hV, h1, ⟨0, by decide, by decide, h4, h5, fun i hi => absurd hi (Nat.not_lt_zero _)⟩, ⟨h2, fun V z => by cases z⟩, ⟨Nat.zero_le _, h6, h7, fun j hj => absurd hj (Nat.not_lt_zero _)⟩, true, h3, fun z => absurd z (by decide)⟩
theorem i_MR {I' : Nat → Nat → Int32} (h1 : CM (S0 6 1) (I' 355)) (h2 : I' 354 4 = nI 0) (h3 : I' 354 7 = bI false) (h4 : I' 354 29 = -1) (h5 : I' 354 2 = nI 0) (h6 : I' 354 26 = nI 0) : MR A0 I' :=
  ⟨h1, ⟨h2, fun i hi => absurd hi (Nat.not_lt_zero _)⟩, ⟨h5, fun V z => by cases z⟩, ⟨h6, h4, fun j hj => absurd hj (Nat.not_lt_zero _)⟩, false, h3, fun z => absurd z (by decide)⟩
theorem VS_new : VS (S0 6 1) := by
  have z5 : inI 0 500 (0 : Int32) := by constructor <;> decide
  have z1 : inI 0 1000 (nI 100) := by constructor <;> decide
  exact ⟨⟨by decide, by decide⟩, ⟨by decide, by decide⟩, by decide, by decide, by decide, fun u hu => absurd hu (Nat.not_lt_zero _), fun o ho => absurd ho (Nat.not_lt_zero _), fun _ _ => z5, fun _ => z5, fun c h1 h4 => ⟨by show c - 1 < c; omega, z1⟩⟩
