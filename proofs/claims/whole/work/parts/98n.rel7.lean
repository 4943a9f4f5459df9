/-! ===== pairs without mathematics: feed, sheet, put, item ===== -/
theorem rl_in3 (v : Int32) (a b : Int64) : ax_in3 v.toInt64 a b = decide (a.toInt ≤ v.toInt ∧ v.toInt ≤ b.toInt) := by
  have e : v.toInt64.toInt = v.toInt := by simp
  unfold ax_in3
  rw [Bool.eq_iff_iff]
  simp only [Bool.and_eq_true, Bool.not_eq_true', decide_eq_false_iff_not, decide_eq_true_eq, Int64.not_lt, Int64.le_iff_toInt_le, e]
theorem rl_i0 : (0 : Int32).toInt = 0 := by decide
theorem rl_i1 : (-1 : Int32).toInt = -1 := by decide
theorem rl_l0 : (0 : Int64).toInt = 0 := by decide
theorem rl_ofInt {v : Int32} {n : Nat} (h : v.toInt = (n : Int)) (hn : n < 2 ^ 31) : v = nI n := Int32.toInt_inj.mp (by rw [nI_toInt hn]; exact h)
theorem rl_byte (w : Int32) : ∃ v, v ≤ 255 ∧ w &&& nI 255 = nI v ∧ w.toInt8.toInt32 = (nI v).toInt8.toInt32 := by
  have h : (w &&& nI 255).toBitVec.toNat ≤ 255 := by
    rw [Int32.toBitVec_and, BitVec.toNat_and]
    exact Nat.le_trans Nat.and_le_right (by decide)
  have e : w &&& nI 255 = nI (w &&& nI 255).toBitVec.toNat := by
    apply rl_ofInt _ (by omega)
    rw [← Int32.toInt_toBitVec, BitVec.toInt_eq_toNat_cond, if_pos (by omega)]
  refine ⟨(w &&& nI 255).toBitVec.toNat, h, e, ?_⟩
  rw [← e, Int32.toInt8_and, show (nI 255).toInt8 = -1 by decide]
  simp
theorem rl_ttp {r c : Nat} {e : Int64} {J : ax_I} : ∀ n q, (q ≠ r + 1 → ax_ttp r c e n J q = J q) ∧ ∀ z, ax_ttp r c e n J (r + 1) z = if c ≤ z ∧ z < c + n then (e.toUInt64 >>> ((nI (8 * (z - c))).toInt64.toUInt64 &&& Int64.toUInt64 63)).toInt64.toInt32 &&& nI 255 else J (r + 1) z := by
  intro n q
  induction n with
  | zero => exact ⟨fun _ => rfl, fun z => by rw [if_neg (by omega)]; rfl⟩
  | succ n ih =>
    refine ⟨fun hq => (ax_u_ne hq).trans (ih.1 hq), fun z => ?_⟩
    show ax_u (ax_ttp r c e n J) (r + 1) (c + n) _ (r + 1) z = _
    by_cases hz : z = c + n
    · subst hz; rw [ax_u_at, if_pos (by omega), Nat.add_sub_cancel_left]
    · rw [ax_u_nj hz, ih.2 z]
      by_cases hz2 : c ≤ z ∧ z < c + n
      · rw [if_pos hz2, if_pos (by omega)]
      · rw [if_neg hz2, if_neg (by omega)]
theorem rl_fd {m c : Nat} {v : Int64} {J : ax_I} : ∀ n, (∀ q, q ≠ m → q ≠ m + 18 → ax_fd m c v n J q = J q) ∧ (∀ z, ax_fd m c v n J (m + 18) z = if c ≤ z ∧ z < c + n then ax_by v (z - c) else J (m + 18) z) ∧ (∀ z, z ≠ 29 → ax_fd m c v n J m z = J m z) ∧ (0 < n → ax_fd m c v n J m 29 = nI (c + n)) := by
  intro n
  induction n with
  | zero => exact ⟨fun _ _ _ => rfl, fun z => by rw [if_neg (by omega)]; rfl, fun _ _ => rfl, fun h => absurd h (by omega)⟩
  | succ n ih =>
    obtain ⟨i1, i2, i3, i4⟩ := ih
    refine ⟨fun q h1 h2 => (ax_u_ne h1).trans ((ax_u_ne h2).trans (i1 q h1 h2)), fun z => ?_, fun z hz => ?_, fun _ => ?_⟩
    · show ax_u (ax_u (ax_fd m c v n J) (m + 18) (c + n) (ax_by v n)) m 29 _ (m + 18) z = _
      rw [ax_u_ne (by omega)]
      by_cases hz : z = c + n
      · subst hz; rw [ax_u_at, if_pos (by omega), Nat.add_sub_cancel_left]
      · rw [ax_u_nj hz, i2 z]
        by_cases hz2 : c ≤ z ∧ z < c + n
        · rw [if_pos hz2, if_pos (by omega)]
        · rw [if_neg hz2, if_neg (by omega)]
    · show ax_u (ax_u (ax_fd m c v n J) (m + 18) (c + n) (ax_by v n)) m 29 _ m z = _
      rw [ax_u_nj hz, ax_u_ne (by omega)]; exact i3 z hz
    · show ax_u (ax_u (ax_fd m c v n J) (m + 18) (c + n) (ax_by v n)) m 29 _ m 29 = _
      rw [ax_u_at]; rfl
set_option maxRecDepth 20000 in
theorem rl_18 (l : Launch) (D : va_G) (T : Nat → ClassId) (o : Nat) : law_P18 l D T o 1000 rl_Rel 0 639 := by
  intro x G I L h
  obtain ⟨r1, r2, r3, r4, ⟨t, b1, b2, b3, b4⟩, r6, r7⟩ := id h
  generalize ((((x 1).toInt64) <<< ((32 : Int32).toInt64 &&& 63)) ||| (((x 2).toInt64) &&& 4294967295)) = e
  have t1 : (1 : Int64).toInt = 1 := by decide
  have t8 : (8 : Int64).toInt = 8 := by decide
  have u1 : (nI 1).toInt = 1 := by decide
  have u8 : (nI 8).toInt = 8 := by decide
  by_cases hb : (x 3) < nI 1 ∨ nI 8 < (x 3)
  · refine ay_PI.mk (k_X10_feed_bad l D T o 1000 G I L 0 e (x 3) r1.1 hb (by omega)) (k_X11_feed_bad l D T o 1000 G I L 639 e (x 3) r1.2.1 (by omega) ?_) rfl h
    rw [rl_in3]
    rw [Int32.lt_iff_toInt_lt, Int32.lt_iff_toInt_lt] at hb
    exact decide_eq_false (by omega)
  · rw [Int32.lt_iff_toInt_lt, Int32.lt_iff_toInt_lt] at hb
    have en : x 3 = nI (x 3).toInt.toNat := rl_ofInt (by omega) (by omega)
    have hn1 : 1 ≤ (x 3).toInt.toNat := by omega
    have hn8 : (x 3).toInt.toNat ≤ 8 := by omega
    rw [en]
    generalize (x 3).toInt.toNat = n at *
    by_cases hf : 100 < t + n
    · exact ay_PI.mk (k_X10_feed_full l D T o 1000 G I L 0 t n e r1.1 b2 b1 hn1 hn8 hf (by omega)) (k_X11_feed_full l D T o 1000 G I L 639 t n e r1.2.1 b3 b1 hn1 hn8 hf (by omega)) rfl h
    · have K := k_X10_feed l D T o 1000 G I L 0 t n e r1.1 b2 b1 hn1 hn8 (by omega) (by omega)
      generalize hI1 : ax_u (ax_ttp (0 + 311) t e n I) (0 + 311) 1 (nI (t + n)) = I1 at K
      have f1 : ∀ q, q ≠ 311 → q ≠ 312 → I1 q = I q := fun q h1 h2 => by rw [← hI1, ax_u_ne (by omega)]; exact (rl_ttp n q).1 (by omega)
      have f2 : I1 311 1 = nI (t + n) := by rw [← hI1]; exact ax_u_at _ _ _ _
      have f3 : ∀ z, I1 312 z = if t ≤ z ∧ z < t + n then (e.toUInt64 >>> ((nI (8 * (z - t))).toInt64.toUInt64 &&& Int64.toUInt64 63)).toInt64.toInt32 &&& nI 255 else I 312 z := fun z => by
        rw [← hI1, ax_u_ne (by omega)]; exact (rl_ttp n 0).2 z
      refine ay_PI.mk K (k_X11_feed l D T o 1000 G I1 L 639 t n e r1.2.1 (by rw [f1 639 (by omega) (by omega)]; exact b3) b1 hn1 hn8 (by omega) (by omega)) rfl ?_
      obtain ⟨g1, g2, g3, g4⟩ := rl_fd (m := 639) (c := t) (v := e) (J := I1) n
      generalize ax_fd 639 t e n I1 = J at *
      have e1 : ∀ q, q ≠ 639 → q ≠ 657 → q ≠ 311 → q ≠ 312 → J q = I q := fun q h1 h2 h3 h4 => (g1 q h1 h2).trans (f1 q h3 h4)
      have e2 : ∀ z, z ≠ 29 → J 639 z = I 639 z := fun z hz => by rw [g3 z hz, f1 639 (by omega) (by omega)]
      obtain ⟨c, k, a1, a2, a3, a4, a5, a6⟩ := r3
      refine ⟨r1, ?_, ⟨c, k, a1, a2, ?_, ?_, ?_, fun i hi => ?_⟩, ?_, ⟨t + n, by omega, ?_, g4 (by omega), fun i hi => ?_⟩, fun j hj => ?_, fun j hj => ?_⟩
      · rw [e1 640 (by omega) (by omega) (by omega) (by omega)]
        exact r2.keep (by rw [e1 1 (by omega) (by omega) (by omega) (by omega)]) (fun q z1 z2 => e1 q (by omega) (by omega) (by omega) (by omega)) (fun _ _ => rfl)
      · rw [e1 29 (by omega) (by omega) (by omega) (by omega)]; exact a3
      · rw [e1 29 (by omega) (by omega) (by omega) (by omega)]; exact a4
      · rw [e2 3 (by omega)]; exact a5
      · have hlt : (c + 20 - k + i) % 20 < 20 := Nat.mod_lt _ (by omega)
        rw [e1 642 (by omega) (by omega) (by omega) (by omega)]
        exact (a6 i hi).keep (by rw [e1 _ (by omega) (by omega) (by omega) (by omega)]) (fun q h1 h2 => e1 q (by omega) (by omega) (by omega) (by omega)) (fun _ _ => rfl)
      · rcases r4 with ⟨q1, q2⟩ | ⟨q1, q2, q3⟩
        · exact Or.inl ⟨by rw [e1 0 (by omega) (by omega) (by omega) (by omega)]; exact q1, (e2 4 (by omega)).trans q2⟩
        · refine Or.inr ⟨by rw [e1 0 (by omega) (by omega) (by omega) (by omega)]; exact q1, (e2 4 (by omega)).trans q2, ?_⟩
          rw [e1 641 (by omega) (by omega) (by omega) (by omega)]
          exact q3.keep (by rw [e1 15 (by omega) (by omega) (by omega) (by omega)]) (fun q h1 h2 => e1 q (by omega) (by omega) (by omega) (by omega)) (fun _ _ => rfl)
      · rw [g1 311 (by omega) (by omega)]; exact f2
      · rw [g1 312 (by omega) (by omega), f3, show 657 = 639 + 18 by rfl, g2]
        by_cases ht : t ≤ i ∧ i < t + n
        · rw [if_pos ht, if_pos ht]
          exact rl_byte _
        · rw [if_neg ht, if_neg ht, f1 (639 + 18) (by omega) (by omega)]
          exact b4 i (by omega)
      · rw [e1 (623 + 2 * j) (by omega) (by omega) (by omega) (by omega), e1 667 (by omega) (by omega) (by omega) (by omega), e1 668 (by omega) (by omega) (by omega) (by omega)]
        exact r6 j hj
      · rw [e1 (631 + 2 * j) (by omega) (by omega) (by omega) (by omega), e1 670 (by omega) (by omega) (by omega) (by omega), e1 671 (by omega) (by omega) (by omega) (by omega)]
        exact r7 j hj
