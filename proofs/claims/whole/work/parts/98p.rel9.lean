/-! ===== pairs without mathematics: lay, hold, lies, taken ===== -/
theorem rl_tl {x0 n j : Nat} {u v w : Int32} {L : ax_L} (hj : j < 3) : ax_tl x0 n u v w L x0 j = if j < n then (if j = 0 then u else if j = 1 then v else w).toInt64 else 0 := by
  unfold ax_tl
  match j, hj with
  | 0, _ => rw [ax_u_nj (by omega), ax_u_nj (by omega), ax_u_at, if_pos rfl]
  | 1, _ => rw [ax_u_nj (by omega), ax_u_at]; rfl
  | 2, _ => rw [ax_u_at]; rfl
theorem rl_st {t n j : Nat} {u v w : Int64} {L : ax_L} (hj : j < 3) : ax_st t n u v w L t j = if j < n then (if j = 0 then u else if j = 1 then v else w) else 0 := by
  unfold ax_st
  match j, hj with
  | 0, _ => rw [ax_u_nj (by omega), ax_u_nj (by omega), ax_u_at, if_pos rfl]
  | 1, _ => rw [ax_u_nj (by omega), ax_u_at]; rfl
  | 2, _ => rw [ax_u_at]; rfl
theorem rl_0s_ne {a q : Nat} {L : ax_L} (h : q ≠ a) : ∀ n, ax_0s a n L q = L q := by
  intro n
  induction n with
  | zero => rfl
  | succ n ih => exact (ax_u_ne h).trans ih
theorem rl_st_ne {t n q : Nat} {u v w : Int64} {L : ax_L} (h : q ≠ t) : ax_st t n u v w L q = L q := by
  unfold ax_st
  rw [ax_u_ne h, ax_u_ne h, ax_u_ne h, rl_0s_ne h]
theorem rl_ly {t r k : Nat} {L : ax_L} (h : r ≠ t) : ∀ n q z, ax_ly t r k n L q z = if q = t ∧ 3 * k ≤ z ∧ z < 3 * k + n then L r (z - 3 * k) else L q z := by
  intro n
  induction n with
  | zero => intro q z; rw [if_neg (by omega)]; rfl
  | succ n ih =>
    intro q z
    show ax_u (ax_ly t r k n L) t (3 * k + n) (ax_ly t r k n L r n) q z = _
    have hr : ax_ly t r k n L r n = L r n := by rw [ih r n, if_neg (fun y => h y.1)]
    rw [hr]
    by_cases hq : q = t
    · subst hq
      by_cases hz : z = 3 * k + n
      · subst hz; rw [ax_u_at, if_pos (by omega), Nat.add_sub_cancel_left]
      · rw [ax_u_nj hz, ih]
        by_cases hz2 : 3 * k ≤ z ∧ z < 3 * k + n
        · rw [if_pos ⟨rfl, hz2⟩, if_pos (by omega)]
        · rw [if_neg (fun y => hz2 y.2), if_neg (by omega)]
    · rw [ax_u_ne hq, ih, if_neg (fun y => hq y.1), if_neg (fun y => hq y.1)]
theorem rl_cp3 {L : ax_L} {b a : Nat} (q z : Nat) : ax_cp L b a 0 0 3 q z = if q = a ∧ z < 3 then L b z else L q z := by
  by_cases hq : q = a
  · subst hq
    rw [ax_cp_eq]; unfold va_cpy
    by_cases hz : z < 3
    · rw [if_pos (by omega), if_pos ⟨rfl, hz⟩, Nat.zero_add, Nat.sub_zero]
    · rw [if_neg (by omega), if_neg (fun y => hz y.2)]
  · rw [ax_cp_ne hq, if_neg (fun y => hq y.1)]
theorem rl_f3n {A B C : Bool} (h : ¬ (A = true ∧ B = true ∧ C = true)) : A = false ∨ B = false ∨ C = false := by cases A <;> cases B <;> cases C <;> simp_all
theorem rl_f3m {A B C : Bool} (h : ¬ (A = true ∧ B = true ∧ C = true)) : (A && B && C) = false := by cases A <;> cases B <;> cases C <;> simp_all
set_option maxRecDepth 20000 in
theorem rl_29 (l : Launch) (D : va_G) (T : Nat → ClassId) (o : Nat) : law_P29 l D T o 1000 rl_Rel 0 639 := by
  intro x G I L h
  obtain ⟨r1, r2, r3, r4, r5, r6, r7⟩ := id h
  by_cases hb : ax_rng (x 1) 4 = true ∧ ax_rng (x 2) 6 = true ∧ (ax_iw (x 3).toInt64 (999 : Int32).toInt64 && ax_iw (x 4).toInt64 (999 : Int32).toInt64 && ax_iw (x 5).toInt64 (999 : Int32).toInt64) = true
  case neg =>
    exact ay_PI.mk (k_X10_lay_bad l D T o 1000 G I L 0 (x 1) (x 2) (x 3) (x 4) (x 5) r1.1 (rl_f3n hb) (by omega)) (k_X11_lay_bad l D T o 1000 G I L 639 (x 1) (x 2) (x 3) (x 4) (x 5) r1.2.1 (by omega) (by rw [← rl_rng6, ← rl_rng4]; exact rl_f3m hb)) rfl h
  case pos =>
    obtain ⟨h1, h2, he⟩ := hb
    rw [rl_rng4] at h1
    rw [rl_rng6] at h2
    obtain ⟨j, hj, ej⟩ := ax_in3_nat (h := 3) (by omega) h1
    obtain ⟨g, hg, eg⟩ := ax_in3_nat (h := 5) (by omega) h2
    rw [ej, eg]
    obtain ⟨gn, gc, hgn, hgc, hsn, hsc⟩ := rl_gngc r2
    have z1 : 0 + (631 + 2 * j) = 631 + 2 * j := by omega
    have z2 : 0 + (632 + 2 * j) = 632 + 2 * j := by omega
    have K := k_X10_lay l D T o 1000 G I L 0 j g (x 3) (x 4) (x 5) gn gc r1.1 hgn hgc (by omega) (by omega) he (by omega)
    rw [z1] at K
    generalize hI1 : ax_u (ax_u (ax_u I (631 + 2 * j) 0 (nI g)) (631 + 2 * j) 2 (-1)) (631 + 2 * j) 3 (nI 0) = I1 at K
    have f1 : ∀ q, q ≠ 631 + 2 * j → I1 q = I q := fun q hq => by rw [← hI1, ax_u_ne hq, ax_u_ne hq, ax_u_ne hq]
    have f2 : I1 (631 + 2 * j) 0 = nI g ∧ I1 (631 + 2 * j) 2 = -1 := by
      rw [← hI1]
      exact ⟨by rw [ax_u_nj (by omega), ax_u_nj (by omega), ax_u_at], by rw [ax_u_nj (by omega), ax_u_at]⟩
    generalize hL1 : ax_layL L 0 j g (x 3) (x 4) (x 5) gn = L1 at K
    have f3 : ∀ q z, q ≠ 621 → L1 q z = if q = 632 + 2 * j ∧ z < 3 then (if z < gn g then (if z = 0 then x 3 else if z = 1 then x 4 else x 5).toInt64 else 0) else L q z := fun q z hq => by
      rw [← hL1]
      unfold ax_layL
      rw [z2, rl_cp3]
      by_cases hc : q = 632 + 2 * j ∧ z < 3
      · rw [if_pos hc, if_pos hc, rl_tl hc.2]
      · rw [if_neg hc, if_neg hc]
        unfold ax_tl
        rw [ax_u_ne (by omega), ax_u_ne (by omega), ax_u_ne (by omega)]
    refine ay_PI.mk K (k_X11_lay l D T o 1000 G I1 L1 639 j g (gn g) (x 3) (x 4) (x 5) r1.2.1 (by omega) (by omega) (by rw [f1 (639 + 1) (by omega)]; exact (hsn g (by omega)).1) (hsn g (by omega)).2 he (by omega)) rfl ?_
    have f4 : ∀ q z, q ≠ 649 → ax_ly (639 + 33) (639 + 10) j 3 (ax_st (639 + 10) (gn g) (x 3).toInt64 (x 4).toInt64 (x 5).toInt64 L1) q z = if q = 672 ∧ 3 * j ≤ z ∧ z < 3 * j + 3 then (if z - 3 * j < gn g then (if z - 3 * j = 0 then x 3 else if z - 3 * j = 1 then x 4 else x 5).toInt64 else 0) else L1 q z := fun q z hq => by
      rw [rl_ly (by omega)]
      by_cases hc : q = 672 ∧ 3 * j ≤ z ∧ z < 3 * j + 3
      · rw [if_pos hc, if_pos hc, rl_st (by omega)]
        split
        · split
          · rfl
          · split <;> rfl
        · rfl
      · rw [if_neg hc, if_neg hc, rl_st_ne hq]
    generalize ax_ly (639 + 33) (639 + 10) j 3 (ax_st (639 + 10) (gn g) (x 3).toInt64 (x 4).toInt64 (x 5).toInt64 L1) = L2 at *
    have f5 : ∀ q z, q ≠ 621 → q ≠ 649 → q ≠ 672 → q ≠ 632 + 2 * j → L2 q z = L q z := fun q z t1 t2 t3 t4 => by rw [f4 q z t2, if_neg (fun y => t3 y.1), f3 q z t1, if_neg (fun y => t4 y.1)]
    have g1 : ∀ q, q ≠ 670 → ax_u I1 (639 + 31) j (nI g) q = I1 q := fun q hq => ax_u_ne hq
    have g2 : ax_u I1 (639 + 31) j (nI g) 670 j = nI g := ax_u_at _ _ _ _
    have g3 : ∀ i, i ≠ j → ax_u I1 (639 + 31) j (nI g) 670 i = I1 670 i := fun i hi => ax_u_nj hi
    generalize ax_u I1 (639 + 31) j (nI g) = J at *
    refine h.host (fun q hq => ?_) (fun i hi => ?_) (fun i hi => ?_)
    · rw [g1 q (by omega)]; exact f1 q (by omega)
    · obtain ⟨s1, s2, s3, s4⟩ := r6 i hi
      rw [g1 (623 + 2 * i) (by omega), f1 (623 + 2 * i) (by omega), g1 667 (by omega), f1 667 (by omega), g1 668 (by omega), f1 668 (by omega)]
      refine ⟨s1, s2, s3, fun y hy => ?_⟩
      rw [f5 _ _ (by omega) (by omega) (by omega) (by omega), f5 _ _ (by omega) (by omega) (by omega) (by omega)]
      exact s4 y hy
    · rw [g1 (631 + 2 * i) (by omega), g1 671 (by omega), f1 671 (by omega)]
      by_cases e : i = j
      · subst e
        refine Or.inr (Or.inl ⟨g, by omega, f2.1, f2.2, g2, fun y hy => ?_⟩)
        rw [f4 _ _ (by omega), if_neg (by omega), f3 _ _ (by omega), if_pos ⟨rfl, hy⟩, f4 672 (3 * i + y) (by omega), if_pos (show 672 = 672 ∧ 3 * i ≤ 3 * i + y ∧ 3 * i + y < 3 * i + 3 from ⟨rfl, by omega, by omega⟩), Nat.add_sub_cancel_left]
      · rw [g3 i e, f1 (631 + 2 * i) (by omega), f1 670 (by omega)]
        have e5 : ∀ y, y < 3 → L2 672 (3 * i + y) = L 672 (3 * i + y) := fun y hy => by rw [f4 _ _ (by omega), if_neg (by omega), f3 _ _ (by omega), if_neg (by omega)]
        rcases r7 i hi with t | ⟨g2, t1, t2, t3, t4, t5⟩ | t
        · exact Or.inl t
        · refine Or.inr (Or.inl ⟨g2, t1, t2, t3, t4, fun y hy => ?_⟩)
          rw [f5 _ _ (by omega) (by omega) (by omega) (by omega), e5 y hy]; exact t5 y hy
        · exact Or.inr (Or.inr t)
set_option maxRecDepth 20000 in
theorem rl_30 (l : Launch) (D : va_G) (T : Nat → ClassId) (o : Nat) : law_P30 l D T o 1000 rl_Rel 0 639 := by
  intro x G I L h
  obtain ⟨r1, r2, r3, r4, r5, r6, r7⟩ := id h
  have fin : ∀ (j : Nat) (s n a b : Int32), j < 4 → ((s = -1 ∧ a = -1) ∨ ∃ u, u ≤ 2 ∧ s = nI u ∧ a = nI (10 + u) ∧ n = b) → rl_Rel G (ax_u (ax_u (ax_u (ax_u (ax_u I (631 + 2 * j) 0 (-1)) (631 + 2 * j) 2 s) (631 + 2 * j) 3 n) 670 j a) 671 j b) L := by
    intro j s n a b hj hs
    refine h.host (fun q hq => ?_) (fun i hi => ?_) (fun i hi => ?_)
    · rw [ax_u_ne (by omega), ax_u_ne (by omega), ax_u_ne (by omega), ax_u_ne (by omega), ax_u_ne (by omega)]
    · have e : ∀ q, q < 631 ∨ (639 ≤ q ∧ q < 670) → (ax_u (ax_u (ax_u (ax_u (ax_u I (631 + 2 * j) 0 (-1)) (631 + 2 * j) 2 s) (631 + 2 * j) 3 n) 670 j a) 671 j b) q = I q := fun q hq => by
        rw [ax_u_ne (by omega), ax_u_ne (by omega), ax_u_ne (by omega), ax_u_ne (by omega), ax_u_ne (by omega)]
      rw [e (623 + 2 * i) (by omega), e 667 (by omega), e 668 (by omega)]
      exact r6 i hi
    · by_cases e : i = j
      · subst e
        have e1 : (ax_u (ax_u (ax_u (ax_u (ax_u I (631 + 2 * i) 0 (-1)) (631 + 2 * i) 2 s) (631 + 2 * i) 3 n) 670 i a) 671 i b) (631 + 2 * i) 0 = -1 := by
          rw [ax_u_ne (by omega), ax_u_ne (by omega), ax_u_nj (by omega), ax_u_nj (by omega), ax_u_at]
        have e2 : (ax_u (ax_u (ax_u (ax_u (ax_u I (631 + 2 * i) 0 (-1)) (631 + 2 * i) 2 s) (631 + 2 * i) 3 n) 670 i a) 671 i b) (631 + 2 * i) 2 = s := by
          rw [ax_u_ne (by omega), ax_u_ne (by omega), ax_u_nj (by omega), ax_u_at]
        have e3 : (ax_u (ax_u (ax_u (ax_u (ax_u I (631 + 2 * i) 0 (-1)) (631 + 2 * i) 2 s) (631 + 2 * i) 3 n) 670 i a) 671 i b) (631 + 2 * i) 3 = n := by
          rw [ax_u_ne (by omega), ax_u_ne (by omega), ax_u_at]
        have e4 : (ax_u (ax_u (ax_u (ax_u (ax_u I (631 + 2 * i) 0 (-1)) (631 + 2 * i) 2 s) (631 + 2 * i) 3 n) 670 i a) 671 i b) 670 i = a := by
          rw [ax_u_ne (by omega), ax_u_at]
        have e5 : (ax_u (ax_u (ax_u (ax_u (ax_u I (631 + 2 * i) 0 (-1)) (631 + 2 * i) 2 s) (631 + 2 * i) 3 n) 670 i a) 671 i b) 671 i = b := ax_u_at _ _ _ _
        rw [e1, e2, e3, e4, e5]
        rcases hs with ⟨t1, t2⟩ | ⟨u, t1, t2, t3, t4⟩
        · exact Or.inl ⟨rfl, t1, t2⟩
        · exact Or.inr (Or.inr ⟨u, t1, rfl, t2, t3, t4⟩)
      · have e0 : (ax_u (ax_u (ax_u (ax_u (ax_u I (631 + 2 * j) 0 (-1)) (631 + 2 * j) 2 s) (631 + 2 * j) 3 n) 670 j a) 671 j b) (631 + 2 * i) = I (631 + 2 * i) := by
          rw [ax_u_ne (by omega), ax_u_ne (by omega), ax_u_ne (by omega), ax_u_ne (by omega), ax_u_ne (by omega)]
        have e4 : (ax_u (ax_u (ax_u (ax_u (ax_u I (631 + 2 * j) 0 (-1)) (631 + 2 * j) 2 s) (631 + 2 * j) 3 n) 670 j a) 671 j b) 670 i = I 670 i := by
          rw [ax_u_ne (by omega), ax_u_nj e, ax_u_ne (by omega), ax_u_ne (by omega), ax_u_ne (by omega)]
        have e5 : (ax_u (ax_u (ax_u (ax_u (ax_u I (631 + 2 * j) 0 (-1)) (631 + 2 * j) 2 s) (631 + 2 * j) 3 n) 670 j a) 671 j b) 671 i = I 671 i := by
          rw [ax_u_nj e, ax_u_ne (by omega), ax_u_ne (by omega), ax_u_ne (by omega), ax_u_ne (by omega)]
        rw [e0, e4, e5]
        exact r7 i hi
  by_cases hb : ax_rng (x 1) 4 = false ∨ (¬ x 2 = -1 ∧ ax_rng (x 2) 4 = false)
  · refine ay_PI.mk (k_X10_hold_bad l D T o 1000 G I L 0 (x 1) (x 2) r1.1 hb (by omega)) (k_X11_hold_bad l D T o 1000 G I L 639 (x 1) (x 2) r1.2.1 ?_ (by omega)) rfl h
    rw [← rl_rng4, ← rl_rng4]
    rcases hb with hb | ⟨hb1, hb2⟩
    · rw [hb]; rfl
    · rw [hb2, decide_eq_false hb1]; simp
  · have hj1 : ax_rng (x 1) 4 = true := by
      cases hz : ax_rng (x 1) 4 with
      | true => rfl
      | false => exact absurd (Or.inl hz) hb
    rw [rl_rng4] at hj1
    obtain ⟨j, hj, ej⟩ := ax_in3_nat (h := 3) (by omega) hj1
    rw [ej]
    have z1 : 0 + (631 + 2 * j) = 631 + 2 * j := by omega
    by_cases hm : x 2 = -1
    · rw [hm]
      have K := k_X10_hold_none l D T o 1000 G I L 0 j r1.1 (by omega) (by omega)
      rw [z1] at K
      exact ay_PI.mk K (k_X11_hold_none l D T o 1000 G _ L 639 j r1.2.1 (by omega) (by omega)) rfl (fin j (-1) (nI 0) (-1) (nI 0) (by omega) (Or.inl ⟨rfl, rfl⟩))
    · have hi1 : ax_rng (x 2) 4 = true := by
        cases hz : ax_rng (x 2) 4 with
        | true => rfl
        | false => exact absurd (Or.inr ⟨hm, hz⟩) hb
      rw [rl_rng4] at hi1
      obtain ⟨i, hi, ei⟩ := ax_in3_nat (h := 3) (by omega) hi1
      rw [ei]
      have z2 : 0 + (623 + 2 * i) = 623 + 2 * i := by omega
      have K := k_X10_hold l D T o 1000 G I L 0 j i r1.1 (by omega) (by omega) (by omega)
      rw [z1, z2] at K
      obtain ⟨⟨n, hn, q1, q2⟩, q3, q4, q5⟩ := r6 i (by omega)
      rw [q1, q3] at K
      have f1 : ∀ q, 639 ≤ q → (ax_u (ax_u (ax_u I (631 + 2 * j) 0 (-1)) (631 + 2 * j) 2 (I 667 i)) (631 + 2 * j) 3 (nI n)) q = I q := fun q hq => by rw [ax_u_ne (by omega), ax_u_ne (by omega), ax_u_ne (by omega)]
      refine ay_PI.mk K (k_X11_hold l D T o 1000 G _ L 639 j i r1.2.1 (by omega) (by omega) (by omega)) rfl ?_
      rw [f1 (639 + 28) (by omega), f1 (639 + 29) (by omega)]
      rcases q4 with e | ⟨u, hu, e⟩
      · have e' : I (639 + 28) i = -1 := e
        rw [if_pos (by rw [e']; decide), e]
        exact fin j (-1) (nI n) (-1) (nI 0) (by omega) (Or.inl ⟨rfl, rfl⟩)
      · have e' : I (639 + 28) i = nI u := e
        have e'' : I (639 + 29) i = nI n := q2
        rw [if_neg (by rw [e']; exact nI_pos (by omega)), e', e'', nI_add]
        exact fin j (nI u) (nI n) (nI (10 + u)) (nI n) (by omega) (Or.inr ⟨u, hu, rfl, rfl, rfl⟩)
/-- what lies on a shelf, told by both -/
theorem rl_shelf {I : ax_I} {L : ax_L} {j : Nat} (h : rl_V I L) (hj : j < 4) : (decide (I (631 + 2 * j) 0 = -1) && decide (I (631 + 2 * j) 2 = -1)) = decide (I 670 j < 0) ∧ (¬ I 670 j < 0 → (I (631 + 2 * j) 0 = -1 ↔ nI 10 ≤ I 670 j)) := by
  rcases h j hj with ⟨t1, t2, t3⟩ | ⟨g, t1, t2, t3, t4, t5⟩ | ⟨u, t1, t2, t3, t4, t5⟩
  · rw [t1, t2, t3]; exact ⟨by decide, fun z => absurd (by decide) z⟩
  · rw [t2, t3, t4, decide_eq_false (rl_m1 (by omega)), decide_eq_false (nI_pos (by omega))]
    exact ⟨rfl, fun _ => ⟨fun z => absurd z (rl_m1 (by omega)), fun z => absurd z (nI_ge (by omega) (by omega))⟩⟩
  · rw [t2, t3, t4, decide_eq_false (rl_m1 (by omega)), decide_eq_false (nI_pos (by omega))]
    exact ⟨rfl, fun _ => ⟨fun _ => nI_le (by omega) (by omega), fun _ => rfl⟩⟩
set_option maxRecDepth 20000 in
theorem rl_33 (l : Launch) (D : va_G) (T : Nat → ClassId) (o : Nat) : law_P33 l D T o 1000 rl_Rel 0 639 := by
  intro x G I L h
  obtain ⟨r1, r2, r3, r4, r5, r6, r7⟩ := id h
  have R := fun a b => k_X11_lies l D T o 1000 G I L 639 a b r1.2.1 (by omega)
  have u3 : (nI 3).toInt = 3 := by decide
  have v3 : (3 : Int64).toInt = 3 := by decide
  have hC : (x 2 < 0) ↔ (x 2).toInt < 0 := by rw [Int32.lt_iff_toInt_lt, rl_i0]
  have hB : (nI 3 < x 2) ↔ 3 < (x 2).toInt := by rw [Int32.lt_iff_toInt_lt, u3]
  by_cases hb : ax_rng (x 1) 4 = false ∨ x 2 < 0 ∨ nI 3 < x 2
  · refine ay_PJ.mk (k_X10_lies_bad l D T o 1000 G I L 0 (x 1) (x 2) r1.1 hb (by omega)) (R (x 1) (x 2)) ?_ h
    unfold an_lies
    rw [if_pos]
    · decide
    · rcases hb with hb | hb
      · rw [← rl_rng4, hb]; rfl
      · rw [rl_in3 (x 2), decide_eq_false (by rw [hC, hB] at hb; rw [rl_l0, v3]; omega)]; simp
  · have hj1 : ax_rng (x 1) 4 = true := by
      cases hz : ax_rng (x 1) 4 with
      | true => rfl
      | false => exact absurd (Or.inl hz) hb
    rw [rl_rng4] at hj1
    obtain ⟨j, hj, ej⟩ := ax_in3_nat (h := 3) (by omega) hj1
    have hu1 : 0 ≤ (x 2).toInt ∧ (x 2).toInt ≤ 3 := by rw [hC, hB] at hb; omega
    have e2 : x 2 = nI (x 2).toInt.toNat := rl_ofInt (by omega) (by omega)
    have hu : (x 2).toInt.toNat ≤ 3 := by omega
    rw [ej, e2]
    generalize (x 2).toInt.toNat = u at *
    obtain ⟨s1, s2⟩ := rl_shelf r7 (j := j) (by omega)
    have z1 : 0 + (631 + 2 * j) = 631 + 2 * j := by omega
    have z2 : 0 + (632 + 2 * j) = 632 + 2 * j := by omega
    have d1 : (-4000000000000000000 : Int64) + (-11 : Int32).toInt64 = (-11 : Int32).toInt64 - 4000000000000000000 := by decide
    have d2 : (-4000000000000000000 : Int64) + (-13 : Int32).toInt64 = (-13 : Int32).toInt64 - 4000000000000000000 := by decide
    have han : an_lies (I (639 + 31)) (L (639 + 33)) (nI j) (nI u) = if I 670 j < 0 then (-11 : Int32).toInt64 - 4000000000000000000 else if nI 10 ≤ I 670 j then (-13 : Int32).toInt64 - 4000000000000000000 else if nI u = nI 3 then (I 670 j).toInt64 else L 672 (3 * j + u) := by
      unfold an_lies
      rw [nI_clamp (by omega), nI_clamp (by omega), show ax_in3 (nI j).toInt64 0 3 = true from ax_in3_ok (h := 3) (by omega) (by omega), show ax_in3 (nI u).toInt64 0 3 = true from ax_in3_ok (h := 3) (by omega) (by omega)]
      rw [if_neg (by decide)]
    have val : ∀ w : Int64, (¬ I 670 j < 0 → ¬ nI 10 ≤ I 670 j → w = if nI u = nI 3 then (I 670 j).toInt64 else L 672 (3 * j + u)) → (if (decide (I (0 + (631 + 2 * j)) 0 = -1) && decide (I (0 + (631 + 2 * j)) 2 = -1)) = true then (-4000000000000000000) + (-11 : Int32).toInt64 else (if (I (0 + (631 + 2 * j)) 0) = (-1) then (-4000000000000000000) + (-13 : Int32).toInt64 else w)) = an_lies (I (639 + 31)) (L (639 + 33)) (nI j) (nI u) := by
      intro w hw
      rw [han, z1, s1]
      by_cases c1 : I 670 j < 0
      · rw [if_pos (decide_eq_true c1), if_pos c1]; exact d1
      · rw [if_neg (by rw [decide_eq_true_eq]; exact c1), if_neg c1]
        by_cases c2 : nI 10 ≤ I 670 j
        · rw [if_pos ((s2 c1).mpr c2), if_pos c2]; exact d2
        · rw [if_neg (fun z => c2 ((s2 c1).mp z)), if_neg c2]; exact hw c1 c2
    by_cases h3 : u = 3
    · subst h3
      refine ay_PJ.mk (k_X10_lies_3 l D T o 1000 G I L 0 j r1.1 (by omega) (by omega)) (R (nI j) (nI 3)) (val _ (fun c1 c2 => ?_)) h
      rw [if_pos rfl, z1]
      rcases r7 j (by omega) with ⟨t1, t2, t3⟩ | ⟨g, t1, t2, t3, t4, t5⟩ | ⟨u, t1, t2, t3, t4, t5⟩
      · rw [t3] at c1; exact absurd (by decide) c1
      · rw [t2, t4]
      · rw [t4] at c2; exact absurd (nI_le (by omega) (by omega)) c2
    · refine ay_PJ.mk (k_X10_lies l D T o 1000 G I L 0 j u r1.1 (by omega) (by omega) (by omega)) (R (nI j) (nI u)) (val _ (fun c1 c2 => ?_)) h
      rw [if_neg (fun z => h3 ((nI_eq (by omega) (by omega)).mp z)), z2]
      rcases r7 j (by omega) with ⟨t1, t2, t3⟩ | ⟨g, t1, t2, t3, t4, t5⟩ | ⟨u, t1, t2, t3, t4, t5⟩
      · rw [t3] at c1; exact absurd (by decide) c1
      · exact t5 u (by omega)
      · rw [t4] at c2; exact absurd (nI_le (by omega) (by omega)) c2
