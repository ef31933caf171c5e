set_option maxRecDepth 100000
set_option maxHeartbeats 4000000
theorem lexle_trans {a b c d e f : Int32} (h1 : lexle a b c d) (h2 : lexle c d e f) : lexle a b e f := by
  rcases h1 with h1 | ⟨rfl, h1⟩
  · rcases h2 with h2 | ⟨rfl, h2⟩
    · exact Or.inl (Int32.lt_trans h1 h2)
    · exact Or.inl h1
  · rcases h2 with h2 | ⟨rfl, h2⟩
    · exact Or.inl h2
    · exact Or.inr ⟨rfl, Int32.le_trans h1 h2⟩
theorem tot_mono {S : PS} {rn : Nat → Int32} (hMo : ∀ rn k, k + 1 < pH S → totF S (oFd S) rn k ≤ totF S (oFd S) rn (k + 1)) {a : Nat} : ∀ {b : Nat}, a ≤ b → b < pH S → totF S (oFd S) rn a ≤ totF S (oFd S) rn b
  | 0, h, _ => by rw [show a = 0 by omega]; exact Int32.le_refl _
  | b + 1, h, hb => by
    by_cases e : a = b + 1
    · rw [e]; exact Int32.le_refl _
    · exact Int32.le_trans (tot_mono hMo (b := b) (by omega) (by omega)) (hMo rn b hb)
/-- what leaving a choice comes to -/
theorem look_leave {I0 I1 : Nat → Nat → Int32} {R : RT} {S : PS} {h st n y : Nat} {g : Nat → Nat} {fd : Bool} {Q : Option Value → az_M → Prop} {xa : Int32} (hV : VS S) (hst : st + n ≤ 1000000) (hfd : I1 348 5 = bI fd) (hbs : bstQ S fd (I1 348 4) (I1 348 3) (I1 351)) (hfr : ∀ q j, q < 235 ∨ (339 < q ∧ q < 348) ∨ 351 < q → I1 q j = I0 q j) (hh : h < pH S) (hy : y + 1 ≤ 2 ^ pU S) (hg : ∀ k, k < h → g k < 2 ^ pU S) (hn : n = Wf (2 ^ pU S - 1) (pH S) g h (y + 1)) (hx : nI (2 ^ pU S) - nI 1 = xa)
    (hI : KI S I1 ∧ (∀ i, i < pU S → I1 339 i = nI (oFd S i)) ∧ OI S (oFd S) (rnG g h (y + 1)) h I1 ∧ TI S (rnG g h (y + 1)) h I1 ∧ (∀ k, k < h → I1 349 k = rnG g h (y + 1) k) ∧ ∀ k, k < h → I1 350 k = totF S (oFd S) (rnG g h (y + 1)) k) (h349 : I1 349 h = nI y) (hA : accQ S h g y fd (I1 348 4) (I1 348 3)) (hF : ∀ k, k < h → fsP S (sq g) k)
    (Z : az_T) (hZ : ∀ m l' I', m < n → lkI S I0 m l' I' → Z l' [] (0, 0) (K0, I', R)) : LX7_look_141 Q Z [some (.ref 348), some (.ref 1), some (.ref 233), some (.int xa), some (.int (nI h)), some (.int (nI st))] [] (0, 0) (K0, az_up I1 349 h (I1 349 h - nI 1), R) := by
  have hU := hV.2.2.2.1
  have hH := hV.1
  refine lk_141 ?_
  have hlt := Wf_dec (A := 2 ^ pU S - 1) (H := pH S) (g := g) (h := h) (x := y)
  refine hZ _ _ _ (by rw [hn]; exact hlt) ⟨st + 1, fd, by omega, ?_, ?_, fun q j z => ?_, Or.inl ⟨h, g, y, hh, by omega, hg, rfl, by unfold lkL; rw [hx], SI_x hU hV.2.1.2 (by omega) hI (by rw [upS ⟨rfl, rfl⟩, h349]) (fun q j z => by rw [upN z]), ?_, hF⟩⟩
  · rw [upN (by omega)]; exact hfd
  · have : az_up I1 349 h (I1 349 h - nI 1) 351 = I1 351 := by funext j; rw [upN (by omega)]
    rw [this, upN (by omega), upN (by omega)]; exact hbs
  · rw [upN (by omega)]; exact hfr q j z
  · rw [upN (by omega), upN (by omega)]; exact hA
theorem look_go {I I0 : Nat → Nat → Int32} {R : RT} {S : PS} {h st n y : Nat} {g : Nat → Nat} {fd : Bool} {Q : Option Value → az_M → Prop} (hV : VS S) (hMo : ∀ rn k, k + 1 < pH S → totF S (oFd S) rn k ≤ totF S (oFd S) rn (k + 1)) (hS : CS 1 S I) (hst : st + n ≤ 1000000) (hfd : I 348 5 = bI fd) (hbs : bstQ S fd (I 348 4) (I 348 3) (I 351)) (hfr : ∀ q j, q < 235 ∨ (339 < q ∧ q < 348) ∨ 351 < q → I q j = I0 q j) (hh : h < pH S) (hy : y + 1 ≤ 2 ^ pU S) (hg : ∀ k, k < h → g k < 2 ^ pU S) (hn : n = Wf (2 ^ pU S - 1) (pH S) g h (y + 1)) (hI : SI S (rnG g h (y + 1)) h I) (hA : accQ S h g (y + 1) fd (I 348 4) (I 348 3)) (hF : ∀ k, k < h → fsP S (sq g) k)
    (Z : az_T) (hZ : ∀ m l' I', m < n → lkI S I0 m l' I' → Z l' [] (0, 0) (K0, I', R)) : BX7_look_41 Q Z (lkL S (nI h) st) [] (0, 0) (K0, I, R) := by
  have hU := hV.2.2.2.1
  have hO := hV.2.2.2.2.1
  have hH := hV.1
  have hp6 : 2 ^ pU S ≤ 64 := Nat.pow_le_pow_right (n := 2) (by omega) hU
  have hpos : 1 ≤ n := by rw [hn]; exact Wf_pos
  have hlt : ¬ (1000000 : Int32) ≤ nI st := by rw [i_mil (by omega)]; exact id
  have c349 : I 349 h = nI y := by
    rw [hI.2.2.2.2.1 h (Nat.le_refl _)]; exact rnG_x
  have hrx : rnG g h (y + 1) h = nI y := rnG_x
  -- a way with this start
  have pre : ∀ d : Nat → Nat, (∀ j, j < h → d j = g j) → d h = y → ∀ k, k ≤ h → rnG g h (y + 1) k = sq d k := by
    intro d e1 e2 k hk
    by_cases e : k = h
    · subst e; rw [rnG_x, sq, e2]
    · rw [rnG_l (by omega), sq, e1 k (by omega)]
  unfold lkL BX7_look_41
  generalize hx : nI (2 ^ pU S) - nI 1 = xa
  refine lk_head hlt ?_
  clear hlt
  refine lk_head2 (by omega) (fun _ => ?_) (fun z => absurd (by rw [c349]; exact nI_pos' (by omega)) z)
  have hI0 := hI
  obtain ⟨q1, q2, q3, q4, q5, q6⟩ := hI
  refine lk_A hV hS hh hI0 hfd (fun z => ?_) (fun z I1 k1 k2 k3 => ⟨fun e => ?_, fun e => ?_⟩)
  · refine lk_leave (by omega) ?_
    refine look_leave hV hst hfd hbs hfr hh hy hg hn hx ⟨q1, q2, q3, q4, fun k hk => q5 k (by omega), q6⟩ c349 (acc_dec hA (fun d d1 d2 d3 d4 => absurd (fsP_congr (fun k hk => (pre d d3 d4 k hk).symm) (d2 h hh)) z)) hF Z hZ
  · have fr : ∀ q j, q < 239 ∨ (239 < q ∧ q < 256) ∨ 338 < q → ¬ (q = 350 ∧ j = h) → I1 q j = I q j := k3
    have e348 : ∀ j, I1 348 j = I 348 j := fun j => fr _ _ (by omega) (by omega)
    have e351 : I1 351 = I 351 := by funext j; exact fr _ _ (by omega) (by omega)
    have hS1 := CS_frame (I' := I1) hU hO hS (fun a j _ _ => fr _ _ (by omega) (by omega))
    have r1 : KI S I1 := ⟨fun o ho => by rw [fr _ _ (by omega) (by omega)]; exact q1.1 o ho, fun o ho => by rw [fr _ _ (by omega) (by omega)]; exact q1.2.1 o ho, fun k hk => by rw [fr _ _ (by omega) (by omega)]; exact q1.2.2 k hk⟩
    have r2 : ∀ i, i < pU S → I1 339 i = nI (oFd S i) := fun i hi => by rw [fr _ _ (by omega) (by omega)]; exact q2 i hi
    have r5 : ∀ k, k ≤ h → I1 349 k = rnG g h (y + 1) k := fun k hk => by rw [fr _ _ (by omega) (by omega)]; exact q5 k hk
    have r6 : ∀ k, k < h + 1 → I1 350 k = totF S (oFd S) (rnG g h (y + 1)) k := fun k hk => by
      by_cases e2 : k = h
      · subst e2; exact k2
      · rw [fr _ _ (by omega) (by omega)]; exact q6 k (by omega)
    have r349 : I1 349 h = nI y := by rw [fr _ _ (by omega) (by omega)]; exact c349
    have rfr : ∀ q j, q < 235 ∨ (339 < q ∧ q < 348) ∨ 351 < q → I1 q j = I0 q j := fun q j w => by rw [fr _ _ (by omega) (by omega)]; exact hfr q j w
    have rfd : I1 348 5 = bI fd := by rw [e348]; exact hfd
    have rbs : bstQ S fd (I1 348 4) (I1 348 3) (I1 351) := by rw [e348, e348, e351]; exact hbs
    have rA : accQ S h g (y + 1) fd (I1 348 4) (I1 348 3) := by rw [e348, e348]; exact hA
    have hgy : ∀ k, k ≤ h → rnG g h (y + 1) k = sq (nu g h y) k := pre (nu g h y) (fun j hj => if_neg (by omega)) (if_pos rfl)
    have hF2 : ∀ k, k < h + 1 → fsP S (sq (nu g h y)) k := fun k hk => by
      by_cases e2 : k = h
      · subst e2; exact fsP_congr hgy z
      · refine fsP_congr (fun j hj => ?_) (hF k (by omega))
        show nI (g j) = nI (nu g h y j)
        rw [show nu g h y j = g j from if_neg (by omega)]
    clear hI0 q1 q2 q3 q4 q5 q6 hfd hbs hfr hA e c349
    refine lk_A1 hV hS1 hh (fun z1 => ?_) (fun z1 => ?_)
    · have tt : totF S (oFd S) (rnG g h (y + 1)) h = totF S (oFd S) (rnG g h (y + 1)) (pH S - 1) := by rw [show pH S - 1 = h by omega]
      have pr2 : ∀ d : Nat → Nat, (∀ j, j < h → d j = g j) → d h = y → totF S (oFd S) (sq d) (pH S - 1) = totF S (oFd S) (rnG g h (y + 1)) h ∧ nmF S (sq d) = nmF S (rnG g h (y + 1)) := fun d e1 e2 => ⟨by
        rw [show pH S - 1 = h by omega]; exact (totF_congr (pre d e1 e2)).symm, nmF_congr (by omega) (fun k hk => (pre d e1 e2 k (by omega)).symm)⟩
      have pn := pr2 (nu g h y) (fun j hj => if_neg (by omega)) (if_pos rfl)
      refine lk_leaf (c := rnG g h (y + 1)) (tot := totF S (oFd S) (rnG g h (y + 1)) h) hV hS1 z1 (fun k hk => r5 k (by omega)) (by rw [show pH S - 1 = h by omega]; exact k2) rfd (fun w1 w2 => ?_) (fun w I2 p1 p2 p3 p4 p5 => ?_)
      · refine lk_leave (by omega) ?_
        refine look_leave hV hst rfd rbs rfr hh hy hg hn hx ⟨r1, r2, fun k hk => k1 k (by omega), (k1 h (by omega)).2.1, fun k hk => r5 k (by omega), fun k hk => r6 k (by omega)⟩ r349 (acc_dec rA (fun d d1 d2 d3 d4 => ?_)) hF Z hZ
        obtain ⟨t1, t2⟩ := pr2 d d3 d4
        rw [t1, t2]
        refine ⟨w1, ?_⟩
        rcases Int32.lt_or_eq_of_le (Int32.not_lt.mp (fun c => w2 (Or.inl c))) with c | c
        · exact Or.inl c
        · exact Or.inr ⟨c, Int32.not_lt.mp (fun c2 => w2 (Or.inr ⟨c.symm, c2⟩))⟩
      · refine lk_leave (by omega) ?_
        have f2 : ∀ q j, q < 348 ∨ (348 < q ∧ q < 351) ∨ 351 < q → I2 q j = I1 q j := fun q j c => p5 q j (by omega) (by omega)
        have s1 : KI S I2 := ⟨fun o ho => by rw [f2 _ _ (by omega)]; exact r1.1 o ho, fun o ho => by rw [f2 _ _ (by omega)]; exact r1.2.1 o ho, fun k hk => by rw [f2 _ _ (by omega)]; exact r1.2.2 k hk⟩
        have sO : OI S (oFd S) (rnG g h (y + 1)) h I2 := OI_frame hU hV.2.1.2 (fun k hk => k1 k (by omega)) (by omega) (fun q j _ _ _ _ => f2 _ _ (by omega)) (fun k j _ => f2 _ _ (by omega))
        have sT : TI S (rnG g h (y + 1)) h I2 := fun u hu => by rw [f2 _ _ (by omega), f2 _ _ (by omega)]; exact (k1 h (by omega)).2.1 u hu
        refine look_leave (fd := true) hV hst p1 (fun _ => ⟨nu g h y, fun k hk => ?_, fun k hk => hF2 k (by omega), ?_, ?_, fun k hk => ?_⟩) (fun q j c => by rw [f2 _ _ (by omega)]; exact rfr q j c) hh hy hg hn hx ⟨s1, fun i hi => by rw [f2 _ _ (by omega)]; exact r2 i hi, sO, sT, fun k hk => by rw [f2 _ _ (by omega)]; exact r5 k (by omega), fun k hk => by rw [f2 _ _ (by omega)]; exact r6 k (by omega)⟩ (by rw [f2 _ _ (by omega)]; exact r349) ?_ hF Z hZ
        · unfold nu
          by_cases e2 : k = h
          · rw [if_pos e2]; omega
          · rw [if_neg e2]; exact hg k (by omega)
        · rw [p2]; exact pn.1.symm
        · rw [p3]; exact pn.2.symm
        · rw [p4 k hk]; exact hgy k (by omega)
        · rw [p2, p3]
          refine acc_dec (fun d d1 d2 d3 => ⟨rfl, ?_⟩) (fun d d1 d2 d3 d4 => ⟨rfl, ?_⟩)
          · obtain ⟨c1, c2⟩ := rA d d1 d2 d3
            refine lexle_trans ?_ c2
            rcases w with w | w | w
            · rw [w] at c1; exact absurd c1 (by decide)
            · exact Or.inl w
            · exact Or.inr ⟨w.1, Int32.le_of_lt w.2⟩
          · obtain ⟨t1, t2⟩ := pr2 d d3 d4
            rw [t1, t2]
            exact Or.inr ⟨rfl, Int32.le_refl _⟩
    · refine lk_deep (rn := rnG g h (y + 1)) hV hS1 z1 (fun k hk => ⟨(k1 k hk).1, (k1 k hk).2.1⟩) (fun I2 m1 m2 m3 => lk_141 ?_)
      have f2 : ∀ q j, q < 241 ∨ (254 ≤ q ∧ q ≠ 349) → I2 q j = I1 q j := fun q j c => m3 q j (by omega) (by omega)
      have f3 : ∀ q j, j ≠ h + 1 → I2 q j = I1 q j := fun q j c => m3 q j (by omega) (by omega)
      have h2 : 2 ^ pU S - 1 + 1 = 2 ^ pU S := by have := Nat.two_pow_pos (pU S); omega
      have hw := Wf_push (A := 2 ^ pU S - 1) (x := y) (g := g) z1
      rw [h2] at hw
      have hc : ∀ k, k < h + 1 → rnG g h (y + 1) k = rnG (nu g h y) (h + 1) (2 ^ pU S) k := fun k hk => by rw [hgy k (by omega), rnG_l hk]
      refine hZ _ _ I2 (by rw [hn]; exact hw) ⟨st + 1, fd, by omega, ?_, ?_, fun q j c => ?_, Or.inl ⟨h + 1, nu g h y, 2 ^ pU S, z1, Nat.le_refl _, fun k hk => ?_, rfl, by unfold lkL; rw [hx], ⟨⟨fun o ho => ?_, fun o ho => ?_, fun k hk => ?_⟩, fun i hi => ?_, OI_congr hc (OI_frame hU hV.2.1.2 k1 (by omega) (fun q j hj _ _ _ => f3 _ _ (by omega)) (fun k j _ => f2 _ _ (by omega))), TI_congr hc m1, fun k hk => ?_, fun k hk => ?_⟩, ?_, hF2⟩⟩
      · rw [f2 _ _ (by omega)]; exact rfd
      · rw [f2 _ _ (by omega), f2 _ _ (by omega), show I2 351 = I1 351 from funext (fun j => f2 _ _ (by omega))]; exact rbs
      · rw [m3 _ _ (by omega) (by omega)]; exact rfr q j c
      · unfold nu
        by_cases e2 : k = h
        · rw [if_pos e2]; omega
        · rw [if_neg e2]; exact hg k (by omega)
      · rw [f2 _ _ (by omega)]; exact r1.1 o ho
      · rw [f2 _ _ (by omega)]; exact r1.2.1 o ho
      · rw [f2 _ _ (by omega)]; exact r1.2.2 k hk
      · rw [f2 _ _ (by omega)]; exact r2 i hi
      · by_cases e2 : k = h + 1
        · subst e2; rw [m2, ← hx]; unfold rnG; rw [if_neg (Nat.lt_irrefl _)]
        · rw [f3 _ _ e2, r5 k (by omega)]; exact hc k (by omega)
      · rw [f3 _ _ (by omega), r6 k (by omega)]; exact totF_congr (fun j hj => hc j (by omega))
      · rw [f2 _ _ (by omega), f2 _ _ (by omega)]; exact acc_push z1 rA
  · have fr : ∀ q j, q < 239 ∨ (239 < q ∧ q < 256) ∨ 338 < q → ¬ (q = 350 ∧ j = h) → I1 q j = I q j := k3
    have e348 : ∀ j, I1 348 j = I 348 j := fun j => fr _ _ (by omega) (by omega)
    have e351 : I1 351 = I 351 := by funext j; exact fr _ _ (by omega) (by omega)
    refine lk_leave (by omega) ?_
    refine look_leave hV hst (by rw [e348]; exact hfd) (by rw [e348, e348, e351]; exact hbs) (fun q j w => by rw [fr _ _ (by omega) (by omega)]; exact hfr q j w) hh hy hg hn hx ⟨⟨fun o ho => ?_, fun o ho => ?_, fun k hk => ?_⟩, fun i hi => ?_, fun k hk => k1 k (by omega), (k1 h (by omega)).2.1, fun k hk => ?_, fun k hk => ?_⟩ ?_ ?_ hF Z hZ
    · rw [fr _ _ (by omega) (by omega)]; exact q1.1 o ho
    · rw [fr _ _ (by omega) (by omega)]; exact q1.2.1 o ho
    · rw [fr _ _ (by omega) (by omega)]; exact q1.2.2 k hk
    · rw [fr _ _ (by omega) (by omega)]; exact q2 i hi
    · rw [fr _ _ (by omega) (by omega)]; exact q5 k (by omega)
    · rw [fr _ _ (by omega) (by omega)]; exact q6 k hk
    · rw [fr _ _ (by omega) (by omega)]; exact c349
    · rw [e348, e348]
      refine acc_dec hA (fun d d1 d2 d3 d4 => ?_)
      have ht : totF S (oFd S) (rnG g h (y + 1)) h = totF S (oFd S) (sq d) h := totF_congr (pre d d3 d4)
      rw [ht] at e
      cases fd
      · exact absurd e (by simp)
      · refine ⟨rfl, Or.inl (Int32.lt_of_lt_of_le (Int32.not_le.mp (fun z => ?_)) (tot_mono hMo (a := h) (b := pH S - 1) (by omega) (by omega)))⟩
        · rw [decide_eq_true z] at e; exact absurd e (by decide)
