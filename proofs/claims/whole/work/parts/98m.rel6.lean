/-! ===== pairs without mathematics: entry, at, feed ===== -/
theorem rl_icl {I : ax_I} {p r x y : Nat} (u v : Int32) (hx : I (0 + 1 + 1) p = nI x) (hy : I (0 + 1 + 1) r = nI y) : ax_icl I 0 p r u v = (ax_rng u (nI x) && ax_rng v (nI y)) := by
  unfold ax_icl
  rw [hx, hy]
  cases ax_rng u (nI x) <;> cases ax_rng v (nI y) <;> rfl
theorem rl_rngS (u : Int32) {x : Nat} (hx : x ≤ 2 ^ 30) : ax_rng u (nI x) = ax_in3 u.toInt64 0 (nI x - nI 1).toInt64 := by
  cases h : ax_in3 u.toInt64 0 (nI x - nI 1).toInt64 with
  | true =>
    obtain ⟨j, hj, rfl⟩ := ax_in3_natS hx h
    exact ax_rng_ok hj (by omega)
  | false =>
    cases h2 : ax_rng u (nI x) with
    | false => rfl
    | true =>
      exfalso
      by_cases hx0 : x = 0
      · subst hx0
        unfold ax_rng at h2
        simp only [Bool.and_eq_true, Bool.not_eq_true', decide_eq_false_iff_not, Int32.not_lt, Int32.not_le] at h2
        have h3 := Int32.le_iff_toInt_le.mp h2.1
        have h4 := Int32.lt_iff_toInt_lt.mp h2.2
        have h5 : (nI 0).toInt = 0 := by decide
        have h6 : (0 : Int32).toInt = 0 := by decide
        omega
      · rw [rl_rng (by omega) (by omega)] at h2
        obtain ⟨j, hj, rfl⟩ := ax_in3_nat (by omega) h2
        rw [ax_in3_okS (by omega) (by omega)] at h
        cases h
theorem rl_v9 (v : Int32) : ax_in3 v.toInt64 (-9) 9 = false ↔ (v < -9 ∨ nI 9 < v) := by
  have e : ∀ w : Int32, w.toInt64.toInt = w.toInt := fun w => by simp
  unfold ax_in3
  have h1 : (v.toInt64 < (-9 : Int64)) ↔ v < -9 := by
    rw [Int64.lt_iff_toInt_lt, Int32.lt_iff_toInt_lt, e]
    have : (-9 : Int64).toInt = -9 := by decide
    have : (-9 : Int32).toInt = -9 := by decide
    omega
  have h2 : ((9 : Int64) < v.toInt64) ↔ nI 9 < v := by
    rw [Int64.lt_iff_toInt_lt, Int32.lt_iff_toInt_lt, e]
    have : (9 : Int64).toInt = 9 := by decide
    have : (nI 9).toInt = 9 := by decide
    omega
  simp only [h1, h2]
  by_cases q1 : v < -9 <;> by_cases q2 : nI 9 < v <;> simp [q1, q2]
theorem rl_9in {v : Int32} (h : ax_in3 v.toInt64 (-9) 9 = true) : ax_in3 v.toInt64 (-99) 99 = true := by
  have e : ∀ w : Int32, w.toInt64.toInt = w.toInt := fun w => by simp
  unfold ax_in3 at h ⊢
  simp only [Bool.and_eq_true, Bool.not_eq_true', decide_eq_false_iff_not, Int64.not_lt, Int64.le_iff_toInt_le, e] at h ⊢
  have a1 : (-9 : Int64).toInt = -9 := by decide
  have a2 : (9 : Int64).toInt = 9 := by decide
  have a3 : (-99 : Int64).toInt = -99 := by decide
  have a4 : (99 : Int64).toInt = 99 := by decide
  omega
set_option maxRecDepth 20000 in
theorem rl_12 (l : Launch) (D : va_G) (T : Nat → ClassId) (o : Nat) : law_P12 l D T o 1000 rl_Rel 0 639 := by
  intro x G I L h
  obtain ⟨r1, r2, -⟩ := id h
  cases hf : (ax_in3 (x 1).toInt64 0 7 && !decide (I (1 + 4) (x 1).toNatClampNeg = -1)) with
  | false => exact ay_PI.mk (k_X10_at_no l D T o 1000 G I L 0 (x 1) (x 2) (x 3) r1.1 hf (by omega)) (k_X11_at_no l D T o 1000 G I L 639 (x 1) (x 2) (x 3) r1.2.1 (by rw [← rl_isMap r2]; exact hf) (by omega)) rfl h
  | true =>
    obtain ⟨j, p, r, a, b, ej, ⟨m1, m2, m3, m4, m5, m6, m7, m8, m9⟩, e1, e2, e3, -⟩ := rl_mapAt r2 hf
    obtain ⟨gn, gc, hgn, hgc, hsn, hsc⟩ := rl_gngc r2
    rw [ej]
    have ea : gn p = a := (nI_eq (by have := (hsn p m2).2; omega) (by omega)).mp ((hsn p m2).1.symm.trans m8)
    have eb : gn r = b := (nI_eq (by have := (hsn r m3).2; omega) (by omega)).mp ((hsn r m3).1.symm.trans m9)
    have hcl : ax_icl I 0 p r (x 2) (x 3) = (ax_in3 (x 2).toInt64 0 (nI a - nI 1).toInt64 && ax_in3 (x 3).toInt64 0 (nI b - nI 1).toInt64) := by
      rw [rl_icl (x := a) (y := b) _ _ (by rw [← ea]; exact (hgn p m2).1) (by rw [← eb]; exact (hgn r m3).1), rl_rngS _ (by omega), rl_rngS _ (by omega)]
    cases hb : (ax_in3 (x 2).toInt64 0 (nI a - nI 1).toInt64 && ax_in3 (x 3).toInt64 0 (nI b - nI 1).toInt64) with
    | false => exact ay_PI.mk (k_X10_at_out l D T o 1000 G I L 0 j p r (x 2) (x 3) gn gc r1.1 hgn hgc m1 e1 m2 e2 m3 (hcl.trans hb) (by omega)) (k_X11_at_bad l D T o 1000 G I L 639 j p r a b (x 2) (x 3) r1.2.1 m1 m2 m3 m4 m5 m6 m7 m8 m9 hb (by omega)) rfl h
    | true =>
      have hb2 := hcl.trans hb
      rw [Bool.and_eq_true] at hb
      obtain ⟨u, hu, eu⟩ := ax_in3_natS (by omega) hb.1
      obtain ⟨v, hv, ev⟩ := ax_in3_natS (by omega) hb.2
      rw [eu, ev] at hb2 ⊢
      refine ay_PI.mk (k_X10_at l D T o 1000 G I L 0 j p r u v gn gc r1.1 hgn hgc m1 e1 m2 e2 m3 (by omega) (by omega) hb2 (by omega)) (k_X11_at l D T o 1000 G I L 639 j p r a b u v r1.2.1 m1 m2 m3 m4 m5 m6 m7 m8 m9 hu hv (by omega)) ?_ h
      have h3 := e3 (3 * u + v) (by omega)
      rw [← Nat.add_assoc, ← Nat.add_assoc] at h3
      exact congrArg (nI 1000 + ·) h3
set_option maxRecDepth 20000 in
theorem rl_11 (l : Launch) (D : va_G) (T : Nat → ClassId) (o : Nat) : law_P11 l D T o 1000 rl_Rel 0 639 := by
  intro x G I L h
  obtain ⟨r1, r2, ⟨c, k, a1, a2, a3, a4, a5, a6⟩, r4, r5, r6, r7⟩ := id h
  cases hf : (ax_in3 (x 1).toInt64 0 7 && !decide (I (1 + 4) (x 1).toNatClampNeg = -1)) with
  | false => exact ay_PI.mk (k_X10_entry_no l D T o 1000 G I L 0 (x 1) (x 2) (x 3) (x 4) r1.1 hf (by omega)) (k_X11_entry_no l D T o 1000 G I L 639 (x 1) (x 2) (x 3) (x 4) r1.2.1 (by rw [← rl_isMap r2]; exact hf) (by omega)) rfl h
  | true =>
    obtain ⟨j, p, r, a, b, ej, ⟨m1, m2, m3, m4, m5, m6, m7, m8, m9⟩, e1, e2, e3, e4⟩ := rl_mapAt r2 hf
    obtain ⟨gn, gc, hgn, hgc, hsn, hsc⟩ := rl_gngc r2
    rw [ej]
    have ea : gn p = a := (nI_eq (by have := (hsn p m2).2; omega) (by omega)).mp ((hsn p m2).1.symm.trans m8)
    have eb : gn r = b := (nI_eq (by have := (hsn r m3).2; omega) (by omega)).mp ((hsn r m3).1.symm.trans m9)
    have hcl : ax_icl I 0 p r (x 2) (x 3) = (ax_in3 (x 2).toInt64 0 (nI a - nI 1).toInt64 && ax_in3 (x 3).toInt64 0 (nI b - nI 1).toInt64) := by
      rw [rl_icl (x := a) (y := b) _ _ (by rw [← ea]; exact (hgn p m2).1) (by rw [← eb]; exact (hgn r m3).1), rl_rngS _ (by omega), rl_rngS _ (by omega)]
    by_cases hb : (ax_in3 (x 2).toInt64 0 (nI a - nI 1).toInt64 && ax_in3 (x 3).toInt64 0 (nI b - nI 1).toInt64) = true ∧ ax_in3 (x 4).toInt64 (-9) 9 = true
    case neg =>
      have hb1 := rl_ff hb
      exact ay_PI.mk (k_X10_entry_bad l D T o 1000 G I L 0 j p r (x 2) (x 3) (x 4) gn gc r1.1 hgn hgc m1 e1 m2 e2 m3 (hb1.imp (fun z => hcl.trans z) (rl_v9 _).mp) (by omega)) (k_X11_entry_bad l D T o 1000 G I L 639 j p r a b (x 2) (x 3) (x 4) r1.2.1 m1 m2 m3 m4 m5 m6 m7 m8 m9 (by rcases hb1 with z | z <;> rw [z] <;> simp) (by omega)) rfl h
    case pos =>
      obtain ⟨hb, hv9⟩ := hb
      have hb2 := hcl.trans hb
      rw [Bool.and_eq_true] at hb
      obtain ⟨u, hu, eu⟩ := ax_in3_natS (by omega) hb.1
      obtain ⟨v, hv, ev⟩ := ax_in3_natS (by omega) hb.2
      rw [eu, ev] at hb2 ⊢
      have hnv : ¬ (x 4 < -9 ∨ nI 9 < x 4) := fun z => by rw [(rl_v9 _).mpr z] at hv9; cases hv9
      have K := k_X10_entry l D T o 1000 G I L 0 c k j p r u v (x 4) gn gc r1.1 a3 a4 a1 a2 hgn hgc m1 e1 m2 e2 m3 (by omega) (by omega) hb2 (fun z => hnv (Or.inl z)) (fun z => hnv (Or.inr z)) (by omega)
      have fr : ∀ q, (q < 29 ∨ 311 ≤ q) → ax_rem 0 c k I q = I q := fun q hq => ax_rem_ne a1 (by omega)
      generalize hI1 : ax_u (ax_rem 0 c k I) (0 + 1 + 6) (9 * j + 3 * u + v) (x 4) = I1 at K
      have f1 : ∀ q, q ≠ 7 → I1 q = ax_rem 0 c k I q := fun q z1 => by rw [← hI1, ax_u_ne (by omega)]
      have f7 : I1 7 = ax_u I 7 (9 * j + 3 * u + v) (x 4) 7 := by rw [← hI1]; show ax_u _ 7 _ _ 7 = _; rw [ax_u_eq, ax_u_eq, fr 7 (by omega)]
      have f8 : ∀ q, 311 ≤ q → I1 q = I q := fun q hq => (f1 q (by omega)).trans (fr q (by omega))
      have e640 : I1 (639 + 1) = I 640 := f8 640 (by omega)
      refine ay_PI.mk K (k_X11_entry l D T o 1000 G I1 L 639 k j p r a b u v (x 4) r1.2.1 m1 m2 m3 m4 m5 (by rw [e640]; exact m6) (by rw [e640]; exact m7) (by rw [e640]; exact m8) (by rw [e640]; exact m9) (by rw [f8 639 (by omega)]; exact a5) a2 hu hv hv9 (by omega)) ?_ ?_
      · have h3 := e3 (3 * u + v) (by omega)
        rw [← Nat.add_assoc, ← Nat.add_assoc] at h3
        rw [e640]
        show nI 1000 + ax_rem 0 c k I 7 _ = _
        rw [fr 7 (by omega)]
        exact congrArg (nI 1000 + ·) h3
      · generalize hJ : ax_u (ax_ch 639 k I1) (639 + 1) (84 + 11 * j + 2 + 3 * u + v) (x 4) = J
        have g1 : ∀ q, q ≠ 640 → J q = ax_ch 639 k I1 q := fun q hq => by rw [← hJ, ax_u_ne hq]
        have g2 : J 640 = ax_u I 640 (84 + 11 * j + 2 + 3 * u + v) (x 4) 640 := by rw [← hJ]; show ax_u _ 640 _ _ 640 = _; rw [ax_u_eq, ax_u_eq, ax_ch_ne (by omega) (by omega), e640]
        have g6 : ∀ q, q < 15 → J q = I1 q := fun q hq => (g1 q (by omega)).trans (ax_ch_ne (by omega) (by omega))
        have g3 : ∀ z, (z < 84 + 11 * j + 2 ∨ 84 + 11 * j + 11 ≤ z) → J 640 z = I 640 z := fun z hz => by rw [g2, ax_u_nj (by omega)]
        refine h.chg2 a1 a2 a6 (fun q hq => f1 q (by omega)) g1 (r2.map (j := j) m1 (fun q z1 z2 z3 z4 => (g6 q z1).trans ((f1 q z4).trans (fr q (by omega)))) (fun f hf => by rw [g6 5 (by omega), f1 5 (by omega), fr 5 (by omega)]) (fun f hf => by rw [g6 6 (by omega), f1 6 (by omega), fr 6 (by omega)]) (fun f i hf hi => by rw [g6 7 (by omega), f7, ax_u_nj (by omega)]) (fun z hz => g3 z (by omega)) ⟨p, r, a, b, ⟨m1, m2, m3, m4, m5, ?_, ?_, ?_, ?_⟩, ?_, ?_, fun i hi => ?_, fun i i2 hi hi2 => ?_⟩) (fun _ _ _ => rfl) rfl rfl
        · rw [g3 _ (by omega)]; exact m6
        · rw [g3 _ (by omega)]; exact m7
        · rw [g3 _ (by omega)]; exact m8
        · rw [g3 _ (by omega)]; exact m9
        · rw [g6 5 (by omega), f1 5 (by omega), fr 5 (by omega)]; exact e1
        · rw [g6 6 (by omega), f1 6 (by omega), fr 6 (by omega)]; exact e2
        · rw [g6 7 (by omega), f7, g2]
          by_cases ei : i = 3 * u + v
          · subst ei; rw [← Nat.add_assoc, ax_u_at, ← Nat.add_assoc, ax_u_at]
          · rw [ax_u_nj (by omega), ax_u_nj (by omega)]; exact e3 i hi
        · rw [g2]
          by_cases ei : i = u ∧ i2 = v
          · obtain ⟨rfl, rfl⟩ := ei
            rw [ax_u_at]
            exact ⟨rl_9in hv9, fun z => absurd ⟨hu, hv⟩ z⟩
          · rw [ax_u_nj (by omega)]; exact e4 i i2 hi hi2
