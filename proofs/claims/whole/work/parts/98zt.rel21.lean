/-! ===== pairs: mapIs, all but what 3 and 4 ===== -/
set_option maxRecDepth 20000 in
theorem rl_13a (l : Launch) (D : va_G) (T : Nat → ClassId) (o : Nat) : ∀ x : Nat → Int32, ¬ x 2 = nI 3 → ¬ x 2 = nI 4 → ay_PI l D T o 1000 rl_Rel 0 639 yX10_mapIs cX10_mapIs 5 (some .int) yX11_mapIs cX11_mapIs 4 (some .int) [.int (x 1), .int (x 2)] := by
  intro x n3 n4 G I L h
  obtain ⟨r1, r2, -⟩ := id h
  by_cases hb : (ax_in3 (x 1).toInt64 0 7 && !decide (I (1 + 4) (x 1).toNatClampNeg = -1)) = true ∧ ax_in3 (x 2).toInt64 0 4 = true
  case neg =>
    have hb1 := rl_ff hb
    have hb2 : (ax_in3 (x 1).toInt64 0 7 && !decide (I (0 + 1 + 4) (x 1).toNatClampNeg = -1)) = false ∨ x 2 < 0 ∨ nI 4 < x 2 := by
      rcases hb1 with e | e
      · exact Or.inl e
      · refine Or.inr ?_
        rw [rl_in3, decide_eq_false_iff_not] at e
        have h0 : (0 : Int64).toInt = 0 := rfl
        have h4 : (4 : Int64).toInt = 4 := rfl
        have h5 : (nI 4).toInt = 4 := rfl
        have h6 : (0 : Int32).toInt = 0 := rfl
        rw [Int32.lt_iff_toInt_lt, Int32.lt_iff_toInt_lt]
        omega
    refine ay_PI.mk (k_X10_mapIs_bad l D T o 1000 G I L 0 (x 1) (x 2) r1.1 hb2 (by omega)) (k_X11_mapIs_bad l D T o 1000 G I L 639 (x 1) (x 2) r1.2.1 (by omega) ?_) rfl h
    have e5 : (ax_in3 (x 1).toInt64 0 7 && !decide (I (639 + 1) (84 + 11 * (x 1).toNatClampNeg) < 0)) = (ax_in3 (x 1).toInt64 0 7 && !decide (I (1 + 4) (x 1).toNatClampNeg = -1)) := (rl_isMap r2 (x 1)).symm
    rw [e5]
    rcases hb1 with e | e
    · rw [e]; rfl
    · rw [e, Bool.and_false]
  case pos =>
    obtain ⟨hf, hu⟩ := hb
    obtain ⟨j, p, r, a, b, ej, hM, e1, e2, e3, -⟩ := rl_mapAt r2 hf
    obtain ⟨m1, m2, m3, m4, m5, m6, m7, m8, m9⟩ := id hM
    obtain ⟨gn, gc, hgn, hgc, hsn, hsc⟩ := rl_gngc r2
    have ea : gn p = a := (nI_eq (by have := (hsn p m2).2; omega) (by omega)).mp ((hsn p m2).1.symm.trans m8)
    have eb : gn r = b := (nI_eq (by have := (hsn r m3).2; omega) (by omega)).mp ((hsn r m3).1.symm.trans m9)
    subst ea eb
    obtain ⟨u, hu', eu⟩ := ax_in3_nat (h := 4) (by omega) hu
    rw [eu] at n3 n4
    rw [ej, eu]
    have u3 : u ≠ 3 := fun z => n3 (by rw [z])
    have u4 : u ≠ 4 := fun z => n4 (by rw [z])
    rcases (show u = 0 ∨ u = 1 ∨ u = 2 by omega) with rfl | rfl | rfl
    · exact ay_PI.mk (k_X10_mapIs_0 l D T o 1000 G I L 0 j p r gn gc r1.1 hgn hgc m1 e1 m2 e2 m3 (by omega)) (k_X11_mapIs_0 l D T o 1000 G I L 639 j p r (gn p) (gn r) (I 640) r1.2.1 rfl m1 m2 m3 m4 m5 m6 m7 m8 m9 (by omega)) rfl h
    · exact ay_PI.mk (k_X10_mapIs_1 l D T o 1000 G I L 0 j p r gn gc r1.1 hgn hgc m1 e1 m2 e2 m3 (by omega)) (k_X11_mapIs_1 l D T o 1000 G I L 639 j p r (gn p) (gn r) (I 640) r1.2.1 rfl m1 m2 m3 m4 m5 m6 m7 m8 m9 (by omega)) rfl h
    · have jI : ∀ q, q ≠ 484 → q ≠ 493 → ax_ldI I 483 (gn p) (gn r) q = I q := fun q h1 h2 => by
        show ax_u (ax_u I 484 2 _) 493 2 _ q = _
        rw [ax_u_ne h2, ax_u_ne h1]
      obtain ⟨Y, y1, y2, y3, y4⟩ := rl_N1 (t := 648) r2.2.1 hsn hsc m3 (by omega) (by omega) (ax_ldL I L 483 1 j p r (gn p) (gc p) (gn r) (gc r))
      obtain ⟨fu, hfu⟩ := ax_N1t_spec (rl_N1t (t := 648) r2.2.1 hsn hsc m3 (by omega) (by omega)).1 (ax_ldL I L 483 1 j p r (gn p) (gc p) (gn r) (gc r))
      obtain ⟨w1, w2, w3⟩ := rl_well (Lc := L) (Lr := ax_ldL I L 483 1 j p r (gn p) (gc p) (gn r) (gc r)) r2 hsn hsc hM e3
      have eY : ax_wlf (I 640) 639 j p (gn p) (gn r) (gc p) 0 Y = ax_wl 639 j p r (gn p) (gn r) (gc p) (gc r) (I 640) (ax_ldL I L 483 1 j p r (gn p) (gc p) (gn r) (gc r)) := by
        unfold ax_wl; rw [rl_N1u hfu y1]
      refine ay_PI.mk (k_X10_mapIs_2 l D T o 1000 G I L 0 j p r gn gc r1.1 hgn hgc m1 e1 m2 e2 m3 (by omega))
        (k_X11_mapIs_2 l D T o 1000 G (ax_ldI I 483 (gn p) (gn r)) (ax_ldL I L 483 1 j p r (gn p) (gc p) (gn r) (gc r)) 639 j p r (gn p) (gn r) (gc p) (gc r) 9223372036854775808 (I 640) Y _ r1.2.1 (jI _ (by omega) (by omega)) m1 m2 m3 m4 m5 m6 m7 m8 m9 (hsc p m2).1 (hsc p m2).2 (hsc r m3).1 (hsc r m3).2 y1 eY (by omega)) ?_ ?_
      · show (if ax_ldv I L 483 1 j p r (gn p) (gc p) (gn r) (gc r) = true then nI 1 else nI 0) = _
        rw [w1]
        cases (ax_wl 639 j p r (gn p) (gn r) (gc p) (gc r) (I 640) (ax_ldL I L 483 1 j p r (gn p) (gc p) (gn r) (gc r))).1 <;> rfl
      · refine h.work2 (fun q hq => by rw [ax_u_ne (by omega)]; exact jI q (by omega) (by omega)) (fun z hz => by rw [ax_u_nj (by omega), jI 639 (by omega) (by omega)]) (fun q hq => ?_)
        exact (w3 q (by omega) (by omega) (by omega) (by omega)).trans (w2 q (by omega))
