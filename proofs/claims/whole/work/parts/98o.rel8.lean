/-! ===== pairs without mathematics: sheet, put, item, lay, hold ===== -/
theorem rl_fl1 {a n : Nat} {v : Int64} {f : ax_L} (q z : Nat) : ax_fl1 a v n f q z = if q = a ∧ z < n then v else f q z := congrFun (congrFun (ax_fl1_eq a v n f) q) z
theorem rl_s0 {a k : Nat} {L : ax_L} : ∀ n q z, ax_s0 a k n L q z = if q = a ∧ 40 * k ≤ z ∧ z < 40 * k + n then 0 else L q z := by
  intro n
  induction n with
  | zero => intro q z; rw [if_neg (by omega)]; rfl
  | succ n ih =>
    intro q z
    show ax_u (ax_s0 a k n L) a (40 * k + n) 0 q z = _
    by_cases hq : q = a
    · subst hq
      by_cases hz : z = 40 * k + n
      · subst hz; rw [ax_u_at, if_pos (by omega)]
      · rw [ax_u_nj hz, ih]
        by_cases hz2 : 40 * k ≤ z ∧ z < 40 * k + n
        · rw [if_pos ⟨rfl, hz2⟩, if_pos (by omega)]
        · rw [if_neg (fun y => hz2 y.2), if_neg (by omega)]
    · rw [ax_u_ne hq, ih, if_neg (fun y => hq y.1), if_neg (fun y => hq y.1)]
/-- sheets and shelves may change: all else lies elsewhere -/
theorem rl_Rel.host {G : ax_G} {I J : ax_I} {L M : ax_L} (h : rl_Rel G I L) (hJ : ∀ q, q < 623 ∨ (639 ≤ q ∧ q < 667) → J q = I q) (hP : rl_P J M) (hV : rl_V J M) : rl_Rel G J M := by
  obtain ⟨r1, r2, ⟨c, k, a1, a2, a3, a4, a5, a6⟩, r4, ⟨t, b1, b2, b3, b4⟩, r6, r7⟩ := h
  refine ⟨r1, ?_, ⟨c, k, a1, a2, ?_, ?_, ?_, fun i hi => ?_⟩, ?_, ⟨t, b1, ?_, ?_, fun i hi => ?_⟩, hP, hV⟩
  · rw [hJ 640 (by omega)]
    exact r2.keep (by rw [hJ 1 (by omega)]) (fun q z1 z2 => hJ q (by omega)) (fun _ _ => rfl)
  · rw [hJ 29 (by omega)]; exact a3
  · rw [hJ 29 (by omega)]; exact a4
  · rw [hJ 639 (by omega)]; exact a5
  · have hlt : (c + 20 - k + i) % 20 < 20 := Nat.mod_lt _ (by omega)
    rw [hJ 642 (by omega)]
    exact (a6 i hi).keep (by rw [hJ _ (by omega)]) (fun q h1 h2 => hJ q (by omega)) (fun _ _ => rfl)
  · unfold rl_K
    rw [hJ 0 (by omega), hJ 639 (by omega), hJ 641 (by omega)]
    rcases r4 with ⟨q1, q2⟩ | ⟨q1, q2, q3⟩
    · exact Or.inl ⟨q1, q2⟩
    · exact Or.inr ⟨q1, q2, q3.keep (by rw [hJ 15 (by omega)]) (fun q z1 z2 => hJ q (by omega)) (fun _ _ => rfl)⟩
  · rw [hJ 311 (by omega)]; exact b2
  · rw [hJ 639 (by omega)]; exact b3
  · rw [hJ 312 (by omega), hJ 657 (by omega)]; exact b4 i hi
theorem rl_sort {I : ax_I} {L : ax_L} {j : Nat} (h : rl_P I L) (hj : j < 4) : (I 667 j = -1 ∨ ∃ u, u ≤ 2 ∧ I 667 j = nI u) := (h j hj).2.2.1
theorem rl_neg1 {v : Int32} (h : v = -1 ∨ ∃ u, u ≤ 2 ∧ v = nI u) : v < 0 ↔ v = -1 := by
  rcases h with rfl | ⟨u, hu, rfl⟩
  · exact ⟨fun _ => rfl, fun _ => by decide⟩
  · exact ⟨fun z => absurd z (nI_pos (by omega)), fun z => absurd z (rl_m1 (by omega))⟩
theorem rl_rf1 {s u i : Int32} {n : Nat} (hn : n ≤ 40) : ax_rf s (nI n) u i (nI 1) = if s = -1 then -11 else if s = u then (if ax_in3 i.toInt64 0 (nI n - nI 1).toInt64 = true then 0 else -12) else -13 := by
  unfold ax_rf
  have e1 : ¬ nI 1 ≤ 0 := by decide
  rw [if_neg e1]
  have hs := pk_sub_toInt (a := n) (b := 1) (by omega) (by omega)
  have hl : (nI n - nI 1).toInt64.toInt = (nI n - nI 1).toInt := by simp
  rw [rl_in3, hl, hs, rl_l0]
  have h0 : i < 0 ↔ i.toInt < 0 := by rw [Int32.lt_iff_toInt_lt, rl_i0]
  have h1 : i ≤ nI n - nI 1 ↔ i.toInt ≤ (n : Int) - 1 := by rw [Int32.le_iff_toInt_le, hs]; omega
  by_cases c1 : s = -1
  · rw [if_pos c1, if_pos c1]
  · rw [if_neg c1, if_neg c1]
    by_cases c2 : s = u
    · rw [if_pos c2, if_pos c2]
      by_cases c3 : i < 0
      · rw [if_pos c3, if_neg (by rw [decide_eq_true_eq]; have := h0.mp c3; omega)]
      · rw [if_neg c3]
        have c4 := mt h0.mpr c3
        by_cases c5 : i ≤ nI n - nI 1
        · rw [if_pos c5, if_pos (by rw [decide_eq_true_eq]; have := h1.mp c5; omega)]
        · rw [if_neg c5, if_neg (by rw [decide_eq_true_eq]; have := mt h1.mpr c5; omega)]
    · rw [if_neg c2, if_neg c2]
set_option maxRecDepth 20000 in
theorem rl_26 (l : Launch) (D : va_G) (T : Nat → ClassId) (o : Nat) : law_P26 l D T o 1000 rl_Rel 0 639 := by
  intro x G I L h
  obtain ⟨r1, r2, r3, r4, r5, r6, r7⟩ := id h
  have u1 : (2 : Int64).toInt = 2 := by decide
  have u2 : (-1 : Int64).toInt = -1 := by decide
  have u3 : (nI 2).toInt = 2 := by decide
  have u4 : (nI 40).toInt = 40 := by decide
  have hA : (x 2 < -1) ↔ (x 2).toInt < -1 := by rw [Int32.lt_iff_toInt_lt, rl_i1]
  have hB : (nI 2 < x 2) ↔ 2 < (x 2).toInt := by rw [Int32.lt_iff_toInt_lt, u3]
  have hC : (x 2 < 0) ↔ (x 2).toInt < 0 := by rw [Int32.lt_iff_toInt_lt, rl_i0]
  have hD : (x 3 ≤ nI 40) ↔ (x 3).toInt ≤ 40 := by rw [Int32.le_iff_toInt_le, u4]
  have hE : (nI 40 < x 3) ↔ 40 < (x 3).toInt := by rw [Int32.lt_iff_toInt_lt, u4]
  have hF : (x 3 < 0) ↔ (x 3).toInt < 0 := by rw [Int32.lt_iff_toInt_lt, rl_i0]
  have hG : ax_in3 (x 2).toInt64 (-1) 2 = decide (-1 ≤ (x 2).toInt ∧ (x 2).toInt ≤ 2) := by rw [rl_in3, u1, u2]
  by_cases hb : ax_rng (x 1) 4 = false ∨ x 2 < -1 ∨ nI 2 < x 2
  · refine ay_PI.mk (k_X10_sheet_bad l D T o 1000 G I L 0 (x 1) (x 2) (x 3) r1.1 hb (by omega)) (k_X11_sheet_bad l D T o 1000 G I L 639 (x 1) (x 2) (x 3) r1.2.1 (by omega) ?_) rfl h
    rcases hb with hb | hb
    · rw [← rl_rng4, hb]; rfl
    · rw [hG, decide_eq_false (by rw [hA, hB] at hb; omega)]; simp
  · have hj1 : ax_rng (x 1) 4 = true := by
      cases hz : ax_rng (x 1) 4 with
      | true => rfl
      | false => exact absurd (Or.inl hz) hb
    rw [rl_rng4] at hj1
    obtain ⟨j, hj, ej⟩ := ax_in3_nat (h := 3) (by omega) hj1
    have hu1 : -1 ≤ (x 2).toInt ∧ (x 2).toInt ≤ 2 := by
      rw [hA, hB] at hb; omega
    rw [ej]
    have done : ∀ (s n : Int32) (M1 M2 : ax_L) (J : ax_I), J = ax_u (ax_u (ax_u (ax_u I (623 + 2 * j) 0 s) (623 + 2 * j) 1 n) 667 j s) 668 j n → (s = -1 ∨ ∃ u, u ≤ 2 ∧ s = nI u) → (∃ z, z ≤ 40 ∧ n = nI z) → rl_Rel G J (ax_s0 669 j 40 (ax_fl1 (624 + 2 * j) 0 40 L)) := by
      intro s n _ _ J hJ hs ⟨z, hz, hn⟩
      have g1 : ∀ q, q ≠ 623 + 2 * j → q ≠ 667 → q ≠ 668 → J q = I q := fun q h1 h2 h3 => by rw [hJ, ax_u_ne h3, ax_u_ne h2, ax_u_ne h1, ax_u_ne h1]
      refine h.host (fun q hq => g1 q (by omega) (by omega) (by omega)) (fun i hi => ?_) (fun i hi => ?_)
      · obtain ⟨q1, q2, q3, q4⟩ := r6 i hi
        by_cases ei : i = j
        · subst ei
          have e1 : J (623 + 2 * i) 1 = n := by rw [hJ, ax_u_ne (by omega), ax_u_ne (by omega), ax_u_at]
          have e2 : J (623 + 2 * i) 0 = s := by rw [hJ, ax_u_ne (by omega), ax_u_ne (by omega), ax_u_nj (by omega), ax_u_at]
          have e3 : J 667 i = s := by rw [hJ, ax_u_ne (by omega), ax_u_at]
          have e4 : J 668 i = n := by rw [hJ, ax_u_at]
          rw [e1, e2, e3, e4]
          refine ⟨⟨z, hz, hn, hn⟩, rfl, hs, fun y hy => ?_⟩
          rw [rl_s0, if_neg (by omega), rl_fl1, if_pos ⟨rfl, hy⟩, rl_s0, if_pos (by omega)]
        · have e3 : J 667 i = I 667 i := by rw [hJ, ax_u_ne (by omega), ax_u_nj ei, ax_u_ne (by omega), ax_u_ne (by omega)]
          have e4 : J 668 i = I 668 i := by rw [hJ, ax_u_nj ei, ax_u_ne (by omega), ax_u_ne (by omega), ax_u_ne (by omega)]
          rw [g1 (623 + 2 * i) (by omega) (by omega) (by omega), e3, e4]
          refine ⟨q1, q2, q3, fun y hy => ?_⟩
          rw [rl_s0, if_neg (by omega), rl_fl1, if_neg (by omega), rl_s0, if_neg (by omega), rl_fl1, if_neg (by omega)]
          exact q4 y hy
      · rw [g1 (631 + 2 * i) (by omega) (by omega) (by omega), g1 670 (by omega) (by omega) (by omega), g1 671 (by omega) (by omega) (by omega)]
        have e5 : ∀ y, (ax_s0 669 j 40 (ax_fl1 (624 + 2 * j) 0 40 L)) (632 + 2 * i) y = L (632 + 2 * i) y := fun y => by rw [rl_s0, if_neg (by omega), rl_fl1, if_neg (by omega)]
        have e6 : ∀ y, (ax_s0 669 j 40 (ax_fl1 (624 + 2 * j) 0 40 L)) 672 y = L 672 y := fun y => by rw [rl_s0, if_neg (by omega), rl_fl1, if_neg (by omega)]
        simp only [e5, e6]
        exact r7 i hi
    by_cases hm : (x 2).toInt = -1
    · have e2 : x 2 = -1 := Int32.toInt_inj.mp (by rw [hm, rl_i1])
      rw [e2]
      exact ay_PI.mk (k_X10_sheet_none l D T o 1000 G I L 0 j (x 3) r1.1 (by omega) (by omega)) (k_X11_sheet_none l D T o 1000 G _ _ 639 j (x 3) r1.2.1 (by omega) (by omega)) rfl (by
        have e := done (-1) (nI 0) L L _ rfl (Or.inl rfl) ⟨0, by omega, rfl⟩
        have z1 : 0 + (623 + 2 * j) = 623 + 2 * j := by omega
        have z2 : 0 + (624 + 2 * j) = 624 + 2 * j := by omega
        rw [z1, z2]; exact e)
    · have e2 : x 2 = nI (x 2).toInt.toNat := rl_ofInt (by omega) (by omega)
      have hu : (x 2).toInt.toNat ≤ 2 := by omega
      rw [e2]
      generalize (x 2).toInt.toNat = u at *
      by_cases h40 : nI 40 < x 3
      · refine ay_PI.mk (k_X10_sheet_big l D T o 1000 G I L 0 j u (x 3) r1.1 (by omega) hu h40 (by omega)) (k_X11_sheet_bad l D T o 1000 G I L 639 (nI j) (nI u) (x 3) r1.2.1 (by omega) ?_) rfl h
        rw [decide_eq_false (nI_pos (by omega)), decide_eq_false (by rw [hD]; have := hE.mp h40; omega)]
        simp
      · by_cases hn0 : x 3 < 0
        · refine ay_PI.mk (k_X10_sheet_small l D T o 1000 G I L 0 j u (x 3) r1.1 (by omega) hu hn0 (by omega)) (k_X11_sheet_small l D T o 1000 G I L 639 j u (x 3) r1.2.1 (by omega) hu hn0 (by omega)) (by rw [if_pos hu]) h
        · have e3 : x 3 = nI (x 3).toInt.toNat := rl_ofInt (by rw [hF] at hn0; omega) (by rw [hE] at h40; omega)
          have hn : (x 3).toInt.toNat ≤ 40 := by rw [hE] at h40; omega
          rw [e3]
          generalize (x 3).toInt.toNat = n at *
          refine ay_PI.mk (k_X10_sheet l D T o 1000 G I L 0 j u n r1.1 (by omega) hu hn (by omega)) (k_X11_sheet l D T o 1000 G _ _ 639 j u n r1.2.1 (by omega) hu hn (by omega)) (by rw [if_pos hu]) ?_
          rw [if_pos hu, if_pos hu]
          have e := done (nI u) (nI n) L L _ rfl (Or.inr ⟨u, hu, rfl⟩) ⟨n, hn, rfl⟩
          have z1 : 0 + (623 + 2 * j) = 623 + 2 * j := by omega
          have z2 : 0 + (624 + 2 * j) = 624 + 2 * j := by omega
          rw [z1, z2]; exact e
theorem rl_Sz {I : ax_I} {L : ax_L} (h : rl_P I L) : ax_Sz (I (639 + 29)) := fun k hk => by
  obtain ⟨⟨n, hn, -, q⟩, -⟩ := h k hk
  exact ⟨n, hn, q⟩
set_option maxRecDepth 20000 in
theorem rl_28 (l : Launch) (D : va_G) (T : Nat → ClassId) (o : Nat) : law_P28 l D T o 1000 rl_Rel 0 639 := by
  intro x G I L h
  obtain ⟨r1, r2, r3, r4, r5, r6, r7⟩ := id h
  have R := fun a b c => k_X11_item l D T o 1000 G I L 639 a b c r1.2.1 (rl_Sz r6) (by omega)
  have u1 : (2 : Int64).toInt = 2 := by decide
  have u3 : (nI 2).toInt = 2 := by decide
  have hC : (x 2 < 0) ↔ (x 2).toInt < 0 := by rw [Int32.lt_iff_toInt_lt, rl_i0]
  have hB : (nI 2 < x 2) ↔ 2 < (x 2).toInt := by rw [Int32.lt_iff_toInt_lt, u3]
  by_cases hb : ax_rng (x 1) 4 = false ∨ x 2 < 0 ∨ nI 2 < x 2
  · refine ay_PI.mk (k_X10_item_bad l D T o 1000 G I L 0 (x 1) (x 2) (x 3) r1.1 hb (by omega)) (R (x 1) (x 2) (x 3)) ?_ h
    unfold an_item
    rw [if_pos]
    rcases hb with hb | hb
    · rw [← rl_rng4, hb]; rfl
    · rw [rl_in3 (x 2), decide_eq_false (by rw [hC, hB] at hb; rw [rl_l0, u1]; omega)]; simp
  · have hj1 : ax_rng (x 1) 4 = true := by
      cases hz : ax_rng (x 1) 4 with
      | true => rfl
      | false => exact absurd (Or.inl hz) hb
    rw [rl_rng4] at hj1
    obtain ⟨j, hj, ej⟩ := ax_in3_nat (h := 3) (by omega) hj1
    have hu1 : 0 ≤ (x 2).toInt ∧ (x 2).toInt ≤ 2 := by rw [hC, hB] at hb; omega
    have e2 : x 2 = nI (x 2).toInt.toNat := rl_ofInt (by omega) (by omega)
    have hu : (x 2).toInt.toNat ≤ 2 := by omega
    rw [ej, e2]
    generalize (x 2).toInt.toNat = u at *
    obtain ⟨⟨n, hn, q1, q2⟩, q3, q4, q5⟩ := r6 j (by omega)
    have z1 : 0 + (623 + 2 * j) = 623 + 2 * j := by omega
    have z2 : 0 + (624 + 2 * j) = 624 + 2 * j := by omega
    have hrf : ax_rf (I (0 + (623 + 2 * j)) 0) (I (0 + (623 + 2 * j)) 1) (nI u) (x 3) (nI 1) = if I 667 j = -1 then -11 else if I 667 j = nI u then (if ax_in3 (x 3).toInt64 0 (nI n - nI 1).toInt64 = true then 0 else -12) else -13 := by
      rw [z1, q1, q3]; exact rl_rf1 hn
    have han : an_item (I (639 + 28)) (I (639 + 29)) (L (639 + 30)) (nI j) (nI u) (x 3) = if I 667 j = nI u then (if ax_in3 (x 3).toInt64 0 (nI n - nI 1).toInt64 = true then (L 669 (40 * j + (x 3).toNatClampNeg)).toInt32 else -12) else if I 667 j < 0 then -11 else -13 := by
      unfold an_item
      rw [nI_clamp (by omega), show ax_in3 (nI j).toInt64 0 3 = true from ax_in3_ok (h := 3) (by omega) (by omega)]
      rw [show ax_in3 (nI u).toInt64 0 2 = true from ax_in3_ok (h := 2) (by omega) (by omega)]
      rw [if_neg (by decide)]
      show (if I 667 j = nI u then (if ax_in3 (x 3).toInt64 0 (I 668 j - nI 1).toInt64 = true then _ else _) else _) = _
      rw [q2]
    by_cases c1 : I 667 j = nI u
    · have cm : ¬ I 667 j = -1 := by rw [c1]; exact rl_m1 (by omega)
      rw [if_neg cm, if_pos c1] at hrf
      rw [if_pos c1] at han
      cases c2 : ax_in3 (x 3).toInt64 0 (nI n - nI 1).toInt64 with
      | true =>
        rw [c2, if_pos rfl] at hrf han
        obtain ⟨i, hi, ei⟩ := ax_in3_natS (by omega) c2
        rw [ei] at hrf han ⊢
        refine ay_PI.mk (k_X10_item l D T o 1000 G I L 0 j u i r1.1 (by omega) hu hrf (by omega) (by omega)) (R (nI j) (nI u) (nI i)) ?_ h
        rw [han, nI_clamp (by omega), z2, q5 i (by omega)]
      | false =>
        rw [c2, if_neg (by decide)] at hrf han
        exact ay_PI.mk (k_X10_item_no l D T o 1000 G I L 0 j u (x 3) r1.1 (by omega) hu (by rw [hrf]; decide) (by omega)) (R (nI j) (nI u) (x 3)) (by rw [han, hrf]) h
    · rw [if_neg c1] at han
      rw [if_neg c1] at hrf
      have hv : (if I 667 j = -1 then (-11 : Int32) else -13) = if I 667 j < 0 then -11 else -13 := by
        by_cases c3 : I 667 j = -1
        · rw [if_pos c3, if_pos ((rl_neg1 q4).mpr c3)]
        · rw [if_neg c3, if_neg (fun z => c3 ((rl_neg1 q4).mp z))]
      refine ay_PI.mk (k_X10_item_no l D T o 1000 G I L 0 j u (x 3) r1.1 (by omega) hu ?_ (by omega)) (R (nI j) (nI u) (x 3)) (by rw [han, hrf]; exact hv) h
      rw [hrf]; split <;> decide
set_option maxRecDepth 20000 in
theorem rl_27 (l : Launch) (D : va_G) (T : Nat → ClassId) (o : Nat) : law_P27 l D T o 1000 rl_Rel 0 639 := by
  intro x G I L h
  obtain ⟨r1, r2, r3, r4, r5, r6, r7⟩ := id h
  generalize ((((x 3).toInt64) <<< ((32 : Int32).toInt64 &&& 63)) ||| (((x 4).toInt64) &&& 4294967295)) = v
  cases hj1 : ax_rng (x 1) 4 with
  | false =>
    refine ay_PI.mk (k_X10_put_bad l D T o 1000 G I L 0 (x 1) (x 2) v r1.1 hj1 (by omega)) (k_X11_put l D T o 1000 G I L 639 (x 1) (x 2) v r1.2.1 (rl_Sz r6) (by omega)) ?_ ?_
    · unfold an_put; rw [← rl_rng4, if_pos hj1]
    · unfold ne_put; rw [if_neg (fun z => by rw [← rl_rng4, hj1] at z; exact absurd z.1 (by decide))]; exact h
  | true =>
    rw [rl_rng4] at hj1
    obtain ⟨j, hj, ej⟩ := ax_in3_nat (h := 3) (by omega) hj1
    rw [ej] at hj1 ⊢
    obtain ⟨⟨n, hn, q1, q2⟩, q3, q4, q5⟩ := r6 j (by omega)
    have z1 : 0 + (623 + 2 * j) = 623 + 2 * j := by omega
    have z2 : 0 + (624 + 2 * j) = 624 + 2 * j := by omega
    have hrf : ax_rf (I (0 + (623 + 2 * j)) 0) (I (0 + (623 + 2 * j)) 1) (I (0 + (623 + 2 * j)) 0) (x 2) (nI 1) = if I 667 j = -1 then -11 else (if ax_in3 (x 2).toInt64 0 (nI n - nI 1).toInt64 = true then 0 else -12) := by
      rw [z1, q1, q3, rl_rf1 hn, if_pos (rfl : I 667 j = I 667 j)]
    have han : an_put (I (639 + 28)) (I (639 + 29)) (nI j) (x 2) = if I 667 j < 0 then -11 else if ax_in3 (x 2).toInt64 0 (nI n - nI 1).toInt64 = true then nI 1 else -12 := by
      unfold an_put
      rw [nI_clamp (by omega), if_neg (by rw [hj1]; decide)]
      show (if I 667 j < 0 then _ else if ax_in3 (x 2).toInt64 0 (I 668 j - nI 1).toInt64 = true then _ else _) = _
      rw [q2]
    by_cases c1 : I 667 j = -1
    · have c2 := (rl_neg1 q4).mpr c1
      rw [if_pos c1] at hrf
      rw [if_pos c2] at han
      refine ay_PI.mk (k_X10_put_no l D T o 1000 G I L 0 j (x 2) v r1.1 (by omega) (by rw [hrf]; decide) (by omega)) (k_X11_put l D T o 1000 G I L 639 (nI j) (x 2) v r1.2.1 (rl_Sz r6) (by omega)) (by rw [hrf, han]) ?_
      unfold ne_put
      rw [if_neg (fun z => by rw [nI_clamp (by omega)] at z; exact z.2.1 c2)]; exact h
    · have c2 : ¬ I 667 j < 0 := fun z => c1 ((rl_neg1 q4).mp z)
      rw [if_neg c1] at hrf
      rw [if_neg c2] at han
      cases c3 : ax_in3 (x 2).toInt64 0 (nI n - nI 1).toInt64 with
      | false =>
        rw [c3, if_neg (by decide)] at hrf han
        refine ay_PI.mk (k_X10_put_no l D T o 1000 G I L 0 j (x 2) v r1.1 (by omega) (by rw [hrf]; decide) (by omega)) (k_X11_put l D T o 1000 G I L 639 (nI j) (x 2) v r1.2.1 (rl_Sz r6) (by omega)) (by rw [hrf, han]) ?_
        unfold ne_put
        rw [if_neg (fun z => by rw [nI_clamp (by omega)] at z; have z3 := z.2.2; rw [show I (639 + 29) j = nI n from q2, c3] at z3; exact absurd z3 (by decide))]; exact h
      | true =>
        rw [c3, if_pos rfl] at hrf han
        obtain ⟨i, hi, ei⟩ := ax_in3_natS (by omega) c3
        rw [ei] at hrf han c3 ⊢
        refine ay_PI.mk (k_X10_put l D T o 1000 G I L 0 j i v r1.1 (by omega) hrf (by omega) (by omega)) (k_X11_put l D T o 1000 G I (ax_putL I L 0 j i v) 639 (nI j) (nI i) v r1.2.1 (rl_Sz r6) (by omega)) (by rw [han]) ?_
        have e1 : ne_put (639 + 30) (I (639 + 28)) (I (639 + 29)) (nI j) (nI i) v (ax_putL I L 0 j i v) = ax_u (ax_putL I L 0 j i v) 669 (40 * j + i) (ax_pv (I 667 j) v) := by
          unfold ne_put
          rw [nI_clamp (by omega), nI_clamp (by omega)]
          exact if_pos ⟨hj1, c2, by rw [show I (639 + 29) j = nI n from q2]; exact c3⟩
        have e2 : ax_putL I L 0 j i v = ax_u L (624 + 2 * j) i (ax_pv (I 667 j) v) := by
          unfold ax_putL ax_pv
          rw [z1, z2, q3]
          by_cases d1 : I 667 j = 0
          · rw [if_pos d1, if_pos d1]
          · rw [if_neg d1, if_neg d1]
            by_cases d2 : I 667 j = nI 1
            · rw [if_pos d2, if_pos d2]
            · rw [if_neg d2, if_neg d2]
        rw [e1, e2]
        refine h.host (fun _ _ => rfl) (fun i2 hi2 => ?_) (fun i2 hi2 => ?_)
        · obtain ⟨s1, s2, s3, s4⟩ := r6 i2 hi2
          refine ⟨s1, s2, s3, fun y hy => ?_⟩
          by_cases ej2 : i2 = j
          · subst ej2
            by_cases ey : y = i
            · subst ey; rw [ax_u_ne (by omega), ax_u_at, ax_u_at]
            · rw [ax_u_ne (by omega), ax_u_nj ey, ax_u_nj (by omega), ax_u_ne (by omega)]; exact s4 y hy
          · rw [ax_u_ne (by omega), ax_u_ne (by omega), ax_u_nj (by omega), ax_u_ne (by omega)]; exact s4 y hy
        · rw [ax_u_ne (by omega), ax_u_ne (by omega), ax_u_ne (by omega), ax_u_ne (by omega)]; exact r7 i2 hi2
