/-! ===== pair: part ===== -/
theorem ax_geN {x : Int32} (h : ¬ x < 0) : ∃ k : Nat, k < 2 ^ 31 ∧ x = nI k := by
  obtain ⟨j, hj, e⟩ := nI_of h
  exact ⟨j, hj, e⟩
theorem rl_15 (l : Launch) (D : va_G) (T : Nat → ClassId) (o : Nat) : law_P15 l D T o 1000 rl_Rel 0 639 := by
  intro x G I L h
  obtain ⟨r1, r2, -⟩ := id h
  cases hf : (ax_in3 (x 1).toInt64 0 7 && !decide (I (1 + 4) (x 1).toNatClampNeg = -1)) with
  | false => exact ay_PI.mk (k_X10_part_bad l D T o 1000 G I L 0 (x 1) (x 2) (x 3) r1.1 (Or.inl hf) (by omega)) (k_X11_part_bad l D T o 1000 G I L 639 (x 1) (x 2) (x 3) r1.2.1 (by omega) (by
      have hf2 := (rl_isMap r2 (x 1)).symm.trans hf
      have hf3 : (ax_in3 (x 1).toInt64 0 7 && !decide (I (639 + 1) (84 + 11 * (x 1).toNatClampNeg) < 0)) = false := hf2
      rw [hf3]; rfl)) rfl h
  | true =>
    obtain ⟨j, p, r, a, b, ej, hM, e1, e2, e3, -⟩ := rl_mapAt r2 hf
    obtain ⟨m1, m2, m3, m4, m5, m6, m7, m8, m9⟩ := id hM
    obtain ⟨gn, gc, hgn, hgc, hsn, hsc⟩ := rl_gngc r2
    have ea : gn p = a := (nI_eq (by have := (hsn p m2).2; omega) (by omega)).mp ((hsn p m2).1.symm.trans m8)
    have eb : gn r = b := (nI_eq (by have := (hsn r m3).2; omega) (by omega)).mp ((hsn r m3).1.symm.trans m9)
    subst ea eb
    have hf2 : (ax_in3 (x 1).toInt64 0 7 && !decide (I (639 + 1) (84 + 11 * (x 1).toNatClampNeg) < 0)) = true := (rl_isMap r2 (x 1)).symm.trans hf
    rw [ej] at hf hf2 ⊢
    have jI : ∀ q, q ≠ 484 → q ≠ 493 → ax_ldI I 483 (gn p) (gn r) q = I q := fun q h1 h2 => by
      show ax_u (ax_u I 484 2 _) 493 2 _ q = _
      rw [ax_u_ne h2, ax_u_ne h1]
    cases ht : ax_in3 (x 2).toInt64 0 2 with
    | false =>
      refine ay_PI.mk (k_X10_part_bad l D T o 1000 G I L 0 (nI j) (x 2) (x 3) r1.1 ?_ (by omega)) (k_X11_part_bad l D T o 1000 G I L 639 (nI j) (x 2) (x 3) r1.2.1 (by omega) (by rw [ht, Bool.and_false]; rfl)) rfl h
      rw [rl_in3, decide_eq_false_iff_not] at ht
      have a1 : (0 : Int64).toInt = 0 := by decide
      have a2 : (2 : Int64).toInt = 2 := by decide
      have a3 : (0 : Int32).toInt = 0 := by decide
      have a4 : (nI 2).toInt = 2 := by decide
      rw [a1, a2] at ht
      by_cases c : (x 2).toInt < 0
      · exact Or.inr (Or.inl (Int32.lt_iff_toInt_lt.mpr (by omega)))
      · exact Or.inr (Or.inr (Or.inl (Int32.lt_iff_toInt_lt.mpr (by omega))))
    | true =>
      obtain ⟨u, hu, eu⟩ := ax_in3_nat (h := 2) (by omega) ht
      rw [eu] at ht ⊢
      by_cases hk1 : x 3 < -1
      · exact ay_PI.mk (k_X10_part_bad l D T o 1000 G I L 0 (nI j) (nI u) (x 3) r1.1 (Or.inr (Or.inr (Or.inr hk1))) (by omega)) (k_X11_part_bad l D T o 1000 G I L 639 (nI j) (nI u) (x 3) r1.2.1 (by omega) (by rw [decide_eq_true hk1, Bool.not_true, Bool.and_false])) rfl h
      have hkk : (!decide (x 3 < -1)) = true := by rw [decide_eq_false hk1]; rfl
      have kc : x 3 = -1 ∨ ∃ k : Nat, k < 2 ^ 31 ∧ x 3 = nI k := by
        by_cases c : x 3 < 0
        · left
          rw [Int32.lt_iff_toInt_lt] at c hk1
          have a1 : (0 : Int32).toInt = 0 := by decide
          have a2 : (-1 : Int32).toInt = -1 := by decide
          exact Int32.toInt_inj.mp (by omega)
        · exact Or.inr (ax_geN c)
      cases hw : ax_ldv I L 483 1 j p r (gn p) (gc p) (gn r) (gc r) with
      | false =>
        obtain ⟨Z, R, z1, z2, z3, z4, z5, -⟩ := rl_pt (Lc := L) (L0 := ax_ldL I L 483 1 j p r (gn p) (gc p) (gn r) (gc r)) r2 hsn hsc hM e3
        obtain ⟨-, w2, -⟩ := rl_well (Lc := L) (Lr := L) r2 hsn hsc hM e3
        have K2 := k_X11_part_state l D T o 1000 G (ax_ldI I 483 (gn p) (gn r)) (ax_ldL I L 483 1 j p r (gn p) (gc p) (gn r) (gc r)) 639 j p r (gn p) (gn r) (gc p) (gc r) gr_F u (x 3) (I 640) Z R r1.2.1 (jI 640 (by omega) (by omega)) m1 m2 m3 m4 m5 m6 m7 m8 m9 (hsc p m2).1 (hsc p m2).2 (hsc r m3).1 (hsc r m3).2 hu hkk z1 z3 (z4.symm.trans hw) (by omega)
        have fin : rl_Rel G (ax_u (ax_ldI I 483 (gn p) (gn r)) 639 6 (nI (gc r))) R.2 := by
          refine h.work2 (fun q hq => by rw [ax_u_ne (by omega)]; exact jI q (by omega) (by omega)) (fun z hz => by rw [ax_u_nj (by omega), jI 639 (by omega) (by omega)]) (fun q hq => ?_)
          exact (z5 q (by omega) (by omega) (by omega) (by omega)).trans (w2 q (by omega))
        rcases kc with ek | ⟨k, hk, ek⟩
        · rw [ek] at K2 ⊢
          exact ay_PI.mk (k_X10_part_no_many l D T o 1000 G I L 0 j p r u gn gc r1.1 hgn hgc m1 e1 m2 e2 m3 hu hw (by omega)) K2 rfl fin
        · rw [ek] at K2 ⊢
          exact ay_PI.mk (k_X10_part_no l D T o 1000 G I L 0 j p r u k gn gc r1.1 hgn hgc m1 e1 m2 e2 m3 hk hu hw (by omega)) K2 rfl fin
      | true =>
        obtain ⟨⟨g1, g2, g3⟩, ⟨g4, g5⟩, g6, g7⟩ := mx_go (aa := 483) (by omega) (L := L) r2 hsn hsc hM e3
        have eL2 : ∀ q, (q < 486 ∨ 539 < q) → ax_woL (ax_ldI I 483 (gn p) (gn r)) (ax_ldL I L 483 1 j p r (gn p) (gc p) (gn r) (gc r)) 483 1 j (gn p) (gn r) q = L q := fun q hq => g6 q (by omega)
        have eI2 : ∀ q, (q < 484 ∨ 520 < q) → ax_woI (ax_ldI I 483 (gn p) (gn r)) 483 (gn p) (gn r) q = I q := fun q hq => g7 q (by omega)
        -- what the reference changes
        have fin : ∀ (J : ax_I) (M Q : ax_L) (wd rk c : Nat), (∀ q, (q < 361 ∨ 623 ≤ q) → J q = I q) → (∀ q, 623 ≤ q → M q = L q) → (∀ q, (q < 643 ∨ 652 < q) → Q q = M q) → rl_Rel G (ax_BI 639 wd rk (ax_u J 639 6 (nI c))) Q := fun J M Q wd rk c hJ hM' hQ => by
          refine h.work3 (fun q hq => ?_) (fun z hz => ?_) (fun q hq => ?_)
          · unfold ax_BI
            rw [ax_u_ne (by omega), ax_u_ne (by omega), ax_u_ne (by omega), ax_u_ne (by omega)]; exact hJ q (by omega)
          · unfold ax_BI
            rw [ax_u_nj (by omega), ax_u_nj (by omega), ax_u_nj (by omega), ax_u_nj (by omega), hJ 639 (by omega)]
          · rw [hQ q (by omega), hM' q (by omega)]
        rcases (show u = 0 ∨ u = 1 ∨ u = 2 by omega) with rfl | rfl | rfl
        · -- what = 0
          have Kk := fun k hk => k_X10_part_0 l D T o 1000 G I L 0 j p r k gn gc r1.1 hgn hgc m1 e1 m2 e2 m3 hk hw (by omega)
          have Km := k_X10_part_0_many l D T o 1000 G I L 0 j p r gn gc r1.1 hgn hgc m1 e1 m2 e2 m3 hw (by omega)
          have Kk' : ∀ k : Nat, k < 2 ^ 31 → ax_Con l D T o yX10_part cX10_part 4 (some .int) 1000 0 0 [.ref 0, .int (nI j), .int (nI 0), .int (nI k)] G I L (fun zz G' I' L' => zz = some (.int (if ax_cn ((ax_frL0 (ax_woL (ax_ldI I 483 (gn p) (gn r)) (ax_ldL I L 483 1 j p r (gn p) (gc p) (gn r) (gc r)) 483 1 j (gn p) (gn r)) 483 616 (gn p)) 616) (ax_rkc 511 (ax_woL (ax_ldI I 483 (gn p) (gn r)) (ax_ldL I L 483 1 j p r (gn p) (gc p) (gn r) (gc r)) 483 1 j (gn p) (gn r)) (gn p)) ≤ k then (-3 : Int32) else (ax_owc ((ax_frL0 (ax_woL (ax_ldI I 483 (gn p) (gn r)) (ax_ldL I L 483 1 j p r (gn p) (gc p) (gn r) (gc r)) 483 1 j (gn p) (gn r)) 483 616 (gn p)) 616) (ax_rkc 511 (ax_woL (ax_ldI I 483 (gn p) (gn r)) (ax_ldL I L 483 1 j p r (gn p) (gc p) (gn r) (gc r)) 483 1 j (gn p) (gn r)) (gn p)) k).toInt32)) ∧ G = G' ∧ (ax_frI0 (ax_woI (ax_ldI I 483 (gn p) (gn r)) 483 (gn p) (gn r)) (ax_woL (ax_ldI I 483 (gn p) (gn r)) (ax_ldL I L 483 1 j p r (gn p) (gc p) (gn r) (gc r)) 483 1 j (gn p) (gn r)) 483 615 (gn p)) = I' ∧ ((ax_frL0 (ax_woL (ax_ldI I 483 (gn p) (gn r)) (ax_ldL I L 483 1 j p r (gn p) (gc p) (gn r) (gc r)) 483 1 j (gn p) (gn r)) 483 616 (gn p))) = L') := Kk
          have Km' : ax_Con l D T o yX10_part cX10_part 4 (some .int) 1000 0 0 [.ref 0, .int (nI j), .int (nI 0), .int (-1)] G I L (fun zz G' I' L' => zz = some (.int (nI (ax_cn ((ax_frL0 (ax_woL (ax_ldI I 483 (gn p) (gn r)) (ax_ldL I L 483 1 j p r (gn p) (gc p) (gn r) (gc r)) 483 1 j (gn p) (gn r)) 483 616 (gn p)) 616) (ax_rkc 511 (ax_woL (ax_ldI I 483 (gn p) (gn r)) (ax_ldL I L 483 1 j p r (gn p) (gc p) (gn r) (gc r)) 483 1 j (gn p) (gn r)) (gn p))))) ∧ G = G' ∧ (ax_frI0 (ax_woI (ax_ldI I 483 (gn p) (gn r)) 483 (gn p) (gn r)) (ax_woL (ax_ldI I 483 (gn p) (gn r)) (ax_ldL I L 483 1 j p r (gn p) (gc p) (gn r) (gc r)) 483 1 j (gn p) (gn r)) 483 615 (gn p)) = I' ∧ ((ax_frL0 (ax_woL (ax_ldI I 483 (gn p) (gn r)) (ax_ldL I L 483 1 j p r (gn p) (gc p) (gn r) (gc r)) 483 1 j (gn p) (gn r)) 483 616 (gn p))) = L') := Km
          clear Kk Km
          generalize ax_woL (ax_ldI I 483 (gn p) (gn r)) (ax_ldL I L 483 1 j p r (gn p) (gc p) (gn r) (gc r)) 483 1 j (gn p) (gn r) = L2 at *
          generalize ax_woI (ax_ldI I 483 (gn p) (gn r)) 483 (gn p) (gn r) = I2 at *
          obtain ⟨Z, R, z1, z2, z3, z4, z5, Y, y1, y2, y3, y4, yN⟩ := rl_pt (Lc := L) (L0 := ax_frL0 (L2) 483 616 (gn p)) r2 hsn hsc hM e3
          have hw1 : R.1 = true := z4.symm.trans hw
          have hw2 : (ax_wlf (I 640) 639 j p (gn p) (gn r) (gc p) 0 Z).1 = true := by rw [z3]; exact hw1
          obtain ⟨X, n1, n2, n3, n4, n5⟩ := yN p m2
          obtain ⟨Q, q1, q2, q3, q4, q5⟩ := rl_d0 (L2 := L2) r2.2.1 r2.2.2.1 hsn hsc hM z2 hw2 g3 g4 n2 n4
          have JI : ∀ q, (q < 361 ∨ 623 ≤ q) → (ax_frI0 (I2) (L2) 483 615 (gn p)) q = I q := fun q hq => by show ax_u (ax_u I2 529 2 _) 615 1 _ q = _; rw [ax_u_ne (by omega), ax_u_ne (by omega)]; exact eI2 q (by omega)
          have ML : ∀ q, 623 ≤ q → (ax_frL0 (L2) 483 616 (gn p)) q = L q := fun q hq => by rw [q3 q (by omega) (by omega)]; exact eL2 q (by omega)
          have QM : ∀ q, (q < 643 ∨ 652 < q) → Q q = (ax_frL0 (L2) 483 616 (gn p)) q := fun q hq => by rw [q2 q (by omega) (by omega) (by omega), n5 q (by omega)]
          rcases kc with ek | ⟨k, hk, ek⟩
          · rw [ek]
            refine ay_PI.mk Km' (k_X11_part_0_many l D T o 1000 G (ax_frI0 (I2) (L2) 483 615 (gn p)) (ax_frL0 (L2) 483 616 (gn p)) 639 j p r (gn p) (gn r) (gc p) (gc r) gr_F (I 640) Z Y X Q R r1.2.1 (JI 640 (by omega)) m1 m2 m3 m4 m5 m6 m7 m8 m9 (hsc p m2).1 (hsc p m2).2 (hsc r m3).1 (hsc r m3).2 z1 z3 hw1 y1 n1 q1 (by omega)) ?_ (fin _ _ _ _ _ _ JI ML QM)
            rw [q4]
          · rw [ek]
            refine ay_PI.mk (Kk' k hk) (k_X11_part_0 l D T o 1000 G (ax_frI0 (I2) (L2) 483 615 (gn p)) (ax_frL0 (L2) 483 616 (gn p)) 639 j p r (gn p) (gn r) (gc p) (gc r) gr_F k (I 640) Z Y X Q R r1.2.1 (JI 640 (by omega)) m1 m2 m3 m4 m5 m6 m7 m8 m9 (hsc p m2).1 (hsc p m2).2 (hsc r m3).1 (hsc r m3).2 z1 z3 hw1 y1 n1 q1 hk (by omega)) ?_ (fin _ _ _ _ _ _ JI ML QM)
            exact q5 k
        · -- what = 1
          have Kk := fun k hk => k_X10_part_1 l D T o 1000 G I L 0 j p r k gn gc r1.1 hgn hgc m1 e1 m2 e2 m3 hk hw (by omega)
          have Km := k_X10_part_1_many l D T o 1000 G I L 0 j p r gn gc r1.1 hgn hgc m1 e1 m2 e2 m3 hw (by omega)
          have Kk' : ∀ k : Nat, k < 2 ^ 31 → ax_Con l D T o yX10_part cX10_part 4 (some .int) 1000 0 0 [.ref 0, .int (nI j), .int (nI 1), .int (nI k)] G I L (fun zz G' I' L' => zz = some (.int (if ax_cn ((ax_frL1 (ax_woL (ax_ldI I 483 (gn p) (gn r)) (ax_ldL I L 483 1 j p r (gn p) (gc p) (gn r) (gc r)) 483 1 j (gn p) (gn r)) 483 616 (gn p)) 616) (gn p) ≤ k then (-3 : Int32) else (ax_owc ((ax_frL1 (ax_woL (ax_ldI I 483 (gn p) (gn r)) (ax_ldL I L 483 1 j p r (gn p) (gc p) (gn r) (gc r)) 483 1 j (gn p) (gn r)) 483 616 (gn p)) 616) (gn p) k).toInt32)) ∧ G = G' ∧ (ax_frI1 (ax_woI (ax_ldI I 483 (gn p) (gn r)) 483 (gn p) (gn r)) 615 (gn p)) = I' ∧ ((ax_frL1 (ax_woL (ax_ldI I 483 (gn p) (gn r)) (ax_ldL I L 483 1 j p r (gn p) (gc p) (gn r) (gc r)) 483 1 j (gn p) (gn r)) 483 616 (gn p))) = L') := Kk
          have Km' : ax_Con l D T o yX10_part cX10_part 4 (some .int) 1000 0 0 [.ref 0, .int (nI j), .int (nI 1), .int (-1)] G I L (fun zz G' I' L' => zz = some (.int (nI (ax_cn ((ax_frL1 (ax_woL (ax_ldI I 483 (gn p) (gn r)) (ax_ldL I L 483 1 j p r (gn p) (gc p) (gn r) (gc r)) 483 1 j (gn p) (gn r)) 483 616 (gn p)) 616) (gn p)))) ∧ G = G' ∧ (ax_frI1 (ax_woI (ax_ldI I 483 (gn p) (gn r)) 483 (gn p) (gn r)) 615 (gn p)) = I' ∧ ((ax_frL1 (ax_woL (ax_ldI I 483 (gn p) (gn r)) (ax_ldL I L 483 1 j p r (gn p) (gc p) (gn r) (gc r)) 483 1 j (gn p) (gn r)) 483 616 (gn p))) = L') := Km
          clear Kk Km
          generalize ax_woL (ax_ldI I 483 (gn p) (gn r)) (ax_ldL I L 483 1 j p r (gn p) (gc p) (gn r) (gc r)) 483 1 j (gn p) (gn r) = L2 at *
          generalize ax_woI (ax_ldI I 483 (gn p) (gn r)) 483 (gn p) (gn r) = I2 at *
          obtain ⟨Z, R, z1, z2, z3, z4, z5, Y, y1, y2, y3, y4, yN⟩ := rl_pt (Lc := L) (L0 := ax_frL1 (L2) 483 616 (gn p)) r2 hsn hsc hM e3
          have hw1 : R.1 = true := z4.symm.trans hw
          have hw2 : (ax_wlf (I 640) 639 j p (gn p) (gn r) (gc p) 0 Z).1 = true := by rw [z3]; exact hw1
          obtain ⟨X, n1, n2, n3, n4, n5⟩ := yN r m3
          obtain ⟨Q, q1, q2, q3, q4, q5⟩ := rl_d1 (L2 := L2) r2.2.1 r2.2.2.1 hsn hsc hM g3 n2 n3
          have JI : ∀ q, (q < 361 ∨ 623 ≤ q) → (ax_frI1 (I2) 615 (gn p)) q = I q := fun q hq => by show ax_u I2 615 1 _ q = _; rw [ax_u_ne (by omega)]; exact eI2 q (by omega)
          have ML : ∀ q, 623 ≤ q → (ax_frL1 (L2) 483 616 (gn p)) q = L q := fun q hq => by rw [q3 q (by omega)]; exact eL2 q (by omega)
          have QM : ∀ q, (q < 643 ∨ 652 < q) → Q q = (ax_frL1 (L2) 483 616 (gn p)) q := fun q hq => by rw [q2 q (by omega) (by omega) (by omega), n5 q (by omega)]
          rcases kc with ek | ⟨k, hk, ek⟩
          · rw [ek]
            refine ay_PI.mk Km' (k_X11_part_1_many l D T o 1000 G (ax_frI1 (I2) 615 (gn p)) (ax_frL1 (L2) 483 616 (gn p)) 639 j p r (gn p) (gn r) (gc p) (gc r) gr_F (I 640) Z Y X Q R r1.2.1 (JI 640 (by omega)) m1 m2 m3 m4 m5 m6 m7 m8 m9 (hsc p m2).1 (hsc p m2).2 (hsc r m3).1 (hsc r m3).2 z1 z3 hw1 y1 n1 q1 (by omega)) ?_ (fin _ _ _ _ _ _ JI ML QM)
            rw [q4]
          · rw [ek]
            refine ay_PI.mk (Kk' k hk) (k_X11_part_1 l D T o 1000 G (ax_frI1 (I2) 615 (gn p)) (ax_frL1 (L2) 483 616 (gn p)) 639 j p r (gn p) (gn r) (gc p) (gc r) gr_F k (I 640) Z Y X Q R r1.2.1 (JI 640 (by omega)) m1 m2 m3 m4 m5 m6 m7 m8 m9 (hsc p m2).1 (hsc p m2).2 (hsc r m3).1 (hsc r m3).2 z1 z3 hw1 y1 n1 q1 hk (by omega)) ?_ (fin _ _ _ _ _ _ JI ML QM)
            exact q5 k
        · -- what = 2
          have Kk := fun k hk => k_X10_part_2 l D T o 1000 G I L 0 j p r k gn gc r1.1 hgn hgc m1 e1 m2 e2 m3 hk hw (by omega)
          have Km := k_X10_part_2_many l D T o 1000 G I L 0 j p r gn gc r1.1 hgn hgc m1 e1 m2 e2 m3 hw (by omega)
          have Kk' : ∀ k : Nat, k < 2 ^ 31 → ax_Con l D T o yX10_part cX10_part 4 (some .int) 1000 0 0 [.ref 0, .int (nI j), .int (nI 2), .int (nI k)] G I L (fun zz G' I' L' => zz = some (.int (if ax_cn ((ax_frL2 (ax_woL (ax_ldI I 483 (gn p) (gn r)) (ax_ldL I L 483 1 j p r (gn p) (gc p) (gn r) (gc r)) 483 1 j (gn p) (gn r)) 483 616 (gn r)) 616) (gn r) ≤ k then (-3 : Int32) else (ax_owc ((ax_frL2 (ax_woL (ax_ldI I 483 (gn p) (gn r)) (ax_ldL I L 483 1 j p r (gn p) (gc p) (gn r) (gc r)) 483 1 j (gn p) (gn r)) 483 616 (gn r)) 616) (gn r) k).toInt32)) ∧ G = G' ∧ (ax_frI2 (ax_woI (ax_ldI I 483 (gn p) (gn r)) 483 (gn p) (gn r)) 615 (gn r)) = I' ∧ ((ax_frL2 (ax_woL (ax_ldI I 483 (gn p) (gn r)) (ax_ldL I L 483 1 j p r (gn p) (gc p) (gn r) (gc r)) 483 1 j (gn p) (gn r)) 483 616 (gn r))) = L') := Kk
          have Km' : ax_Con l D T o yX10_part cX10_part 4 (some .int) 1000 0 0 [.ref 0, .int (nI j), .int (nI 2), .int (-1)] G I L (fun zz G' I' L' => zz = some (.int (nI (ax_cn ((ax_frL2 (ax_woL (ax_ldI I 483 (gn p) (gn r)) (ax_ldL I L 483 1 j p r (gn p) (gc p) (gn r) (gc r)) 483 1 j (gn p) (gn r)) 483 616 (gn r)) 616) (gn r)))) ∧ G = G' ∧ (ax_frI2 (ax_woI (ax_ldI I 483 (gn p) (gn r)) 483 (gn p) (gn r)) 615 (gn r)) = I' ∧ ((ax_frL2 (ax_woL (ax_ldI I 483 (gn p) (gn r)) (ax_ldL I L 483 1 j p r (gn p) (gc p) (gn r) (gc r)) 483 1 j (gn p) (gn r)) 483 616 (gn r))) = L') := Km
          clear Kk Km
          generalize ax_woL (ax_ldI I 483 (gn p) (gn r)) (ax_ldL I L 483 1 j p r (gn p) (gc p) (gn r) (gc r)) 483 1 j (gn p) (gn r) = L2 at *
          generalize ax_woI (ax_ldI I 483 (gn p) (gn r)) 483 (gn p) (gn r) = I2 at *
          obtain ⟨Z, R, z1, z2, z3, z4, z5, Y, y1, y2, y3, y4, yN⟩ := rl_pt (Lc := L) (L0 := ax_frL2 (L2) 483 616 (gn r)) r2 hsn hsc hM e3
          have hw1 : R.1 = true := z4.symm.trans hw
          have hw2 : (ax_wlf (I 640) 639 j p (gn p) (gn r) (gc p) 0 Z).1 = true := by rw [z3]; exact hw1
          obtain ⟨Q, q1, q2, q3, q4, q5⟩ := rl_d2 (L2 := L2) r2.2.1 r2.2.2.1 hsn hsc hM g2 y2
          have JI : ∀ q, (q < 361 ∨ 623 ≤ q) → (ax_frI2 (I2) 615 (gn r)) q = I q := fun q hq => by show ax_u I2 615 1 _ q = _; rw [ax_u_ne (by omega)]; exact eI2 q (by omega)
          have ML : ∀ q, 623 ≤ q → (ax_frL2 (L2) 483 616 (gn r)) q = L q := fun q hq => by rw [q3 q (by omega)]; exact eL2 q (by omega)
          have QM : ∀ q, (q < 643 ∨ 652 < q) → Q q = (ax_frL2 (L2) 483 616 (gn r)) q := fun q hq => by rw [q2 q (by omega) (by omega) (by omega) (by omega), y4 q (by omega)]
          rcases kc with ek | ⟨k, hk, ek⟩
          · rw [ek]
            refine ay_PI.mk Km' (k_X11_part_2_many l D T o 1000 G (ax_frI2 (I2) 615 (gn r)) (ax_frL2 (L2) 483 616 (gn r)) 639 j p r (gn p) (gn r) (gc p) (gc r) gr_F (I 640) Z Y Q R r1.2.1 (JI 640 (by omega)) m1 m2 m3 m4 m5 m6 m7 m8 m9 (hsc p m2).1 (hsc p m2).2 (hsc r m3).1 (hsc r m3).2 z1 z3 hw1 y1 q1 (by omega)) ?_ (fin _ _ _ _ _ _ JI ML QM)
            rw [q4]
          · rw [ek]
            refine ay_PI.mk (Kk' k hk) (k_X11_part_2 l D T o 1000 G (ax_frI2 (I2) 615 (gn r)) (ax_frL2 (L2) 483 616 (gn r)) 639 j p r (gn p) (gn r) (gc p) (gc r) gr_F k (I 640) Z Y Q R r1.2.1 (JI 640 (by omega)) m1 m2 m3 m4 m5 m6 m7 m8 m9 (hsc p m2).1 (hsc p m2).2 (hsc r m3).1 (hsc r m3).2 z1 z3 hw1 y1 q1 hk (by omega)) ?_ (fin _ _ _ _ _ _ JI ML QM)
            exact q5 k
