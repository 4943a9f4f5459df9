/-! ===== pairs without mathematics: stop ===== -/
theorem rl_stops {u : Int32} {A0 B0 : ax_I} {p : Nat} (hp : p ≤ 12) (h0 : ∀ k, k < p → rl_mv A0 (B0 640) k k ∧ rl_mw (B0 640) k) : ∀ n, n ≤ p →
    (ax_drm 1 u n (A0, 0)).2 = (ax_stp 639 u n B0).1 ∧ (ax_stp 639 u n B0).1 ≤ n ∧ (∀ q, q ≠ 640 → (ax_stp 639 u n B0).2 q = B0 q) ∧ (∀ z, (z < 173 ∨ 173 + 15 * n ≤ z) → (ax_stp 639 u n B0).2 640 z = B0 640 z) ∧
    (∀ k, n ≤ k → k < 12 → (∀ q, 8 ≤ q → q < 14 → (ax_drm 1 u n (A0, 0)).1 q k = A0 q k) ∧ ∀ i, i < 9 → (ax_drm 1 u n (A0, 0)).1 14 (9 * k + i) = A0 14 (9 * k + i)) ∧
    (∀ k, k < (ax_stp 639 u n B0).1 → rl_mv (ax_drm 1 u n (A0, 0)).1 ((ax_stp 639 u n B0).2 640) k k ∧ rl_mw ((ax_stp 639 u n B0).2 640) k) := by
  intro n
  induction n with
  | zero => intro _; exact ⟨rfl, Nat.le_refl _, fun _ _ => rfl, fun _ _ => rfl, fun _ _ _ => ⟨fun _ _ _ => rfl, fun _ _ => rfl⟩, fun k hk => absurd hk (Nat.not_lt_zero _)⟩
  | succ n ih =>
    intro hn
    obtain ⟨i1, i2, i3, i4, i5, i6⟩ := ih (by omega)
    have eA : ax_drm 1 u (n + 1) (A0, 0) = if (ax_drm 1 u n (A0, 0)).1 (1 + 7) n = u then ((ax_drm 1 u n (A0, 0)).1, (ax_drm 1 u n (A0, 0)).2) else (ax_shm 1 n (ax_drm 1 u n (A0, 0)).2 (ax_drm 1 u n (A0, 0)).1, (ax_drm 1 u n (A0, 0)).2 + 1) := rfl
    have eB : ax_stp 639 u (n + 1) B0 = if (ax_stp 639 u n B0).2 (639 + 1) (173 + 15 * n) = u then ax_stp 639 u n B0 else ((ax_stp 639 u n B0).1 + 1, ax_cp (ax_stp 639 u n B0).2 (639 + 1) (639 + 1) (173 + 15 * n) (173 + 15 * (ax_stp 639 u n B0).1) 15) := rfl
    rw [eA, eB]
    generalize hA : ax_drm 1 u n (A0, 0) = A at *
    generalize hB : ax_stp 639 u n B0 = B at *
    obtain ⟨A, la⟩ := A
    obtain ⟨lb, B⟩ := B
    simp only at i1 i2 i3 i4 i5 i6 ⊢
    subst i1
    obtain ⟨z1, z2⟩ := i5 n (by omega) (by omega)
    have es : A (1 + 7) n = B (639 + 1) (173 + 15 * n) := by
      rw [show B (639 + 1) (173 + 15 * n) = B0 640 (173 + 15 * n) from i4 _ (by omega), show A (1 + 7) n = A0 8 n from z1 8 (by omega) (by omega)]
      exact (h0 n (by omega)).1.1
    rw [es]
    by_cases c : B (639 + 1) (173 + 15 * n) = u
    · rw [if_pos c, if_pos c]
      exact ⟨rfl, Nat.le_succ_of_le i2, i3, fun z hz => i4 z (by omega), fun k hk1 hk2 => i5 k (by omega) hk2, i6⟩
    · rw [if_neg c, if_neg c]
      dsimp only
      have cz : ∀ z, ax_cp B (639 + 1) (639 + 1) (173 + 15 * n) (173 + 15 * la) 15 640 z = if 173 + 15 * la ≤ z ∧ z < 173 + 15 * la + 15 then B 640 (173 + 15 * n + (z - (173 + 15 * la))) else B 640 z := fun z => by
        rw [show 640 = 639 + 1 by rfl, ax_cp_eq]; rfl
      have sh : ∀ q, 8 ≤ q → q < 14 → ∀ k, ax_shm 1 n la A q k = if k = la then A q n else A q k := by
        intro q q1 q2 k
        unfold ax_shm
        rw [ax_cp_ne (by omega)]
        rcases (show q = 8 ∨ q = 9 ∨ q = 10 ∨ q = 11 ∨ q = 12 ∨ q = 13 by omega) with rfl | rfl | rfl | rfl | rfl | rfl
        · rw [ax_u_ne (by omega), ax_u_ne (by omega), ax_u_ne (by omega), ax_u_ne (by omega), ax_u_ne (by omega), show 1 + 7 = 8 by rfl, ax_u_eq]
        · rw [ax_u_ne (by omega), ax_u_ne (by omega), ax_u_ne (by omega), ax_u_ne (by omega), show 1 + 8 = 9 by rfl, ax_u_eq, ax_u_ne (by omega)]
        · rw [ax_u_ne (by omega), ax_u_ne (by omega), ax_u_ne (by omega), show 1 + 9 = 10 by rfl, ax_u_eq, ax_u_ne (by omega), ax_u_ne (by omega)]
        · rw [ax_u_ne (by omega), ax_u_ne (by omega), show 1 + 10 = 11 by rfl, ax_u_eq, ax_u_ne (by omega), ax_u_ne (by omega), ax_u_ne (by omega)]
        · rw [ax_u_ne (by omega), show 1 + 11 = 12 by rfl, ax_u_eq, ax_u_ne (by omega), ax_u_ne (by omega), ax_u_ne (by omega), ax_u_ne (by omega)]
        · rw [show 1 + 12 = 13 by rfl, ax_u_eq, ax_u_ne (by omega), ax_u_ne (by omega), ax_u_ne (by omega), ax_u_ne (by omega), ax_u_ne (by omega)]
      have sh14 : ∀ z, ax_shm 1 n la A 14 z = if 9 * la ≤ z ∧ z < 9 * la + 9 then A 14 (9 * n + (z - 9 * la)) else A 14 z := by
        intro z
        unfold ax_shm
        rw [show 1 + 13 = 14 by rfl, ax_cp_eq]
        unfold va_cpy
        rw [ax_u_ne (by omega), ax_u_ne (by omega), ax_u_ne (by omega), ax_u_ne (by omega), ax_u_ne (by omega), ax_u_ne (by omega)]
      refine ⟨rfl, by omega, fun q hq => by rw [ax_cp_ne hq]; exact i3 q hq, fun z hz => by rw [cz, if_neg (by omega)]; exact i4 z (by omega), fun k hk1 hk2 => ⟨fun q q1 q2 => ?_, fun i hi => ?_⟩, fun k hk => ?_⟩
      · rw [sh q q1 q2, if_neg (by omega)]; exact (i5 k (by omega) hk2).1 q q1 q2
      · rw [sh14, if_neg (by omega)]; exact (i5 k (by omega) hk2).2 i hi
      · by_cases e : k = la
        · subst e
          obtain ⟨w1, w2⟩ := h0 n (by omega)
          have eS : ∀ i, i < 15 → ax_cp B (639 + 1) (639 + 1) (173 + 15 * n) (173 + 15 * k) 15 640 (173 + 15 * k + i) = B0 640 (173 + 15 * n + i) := fun i hi => by
            rw [cz, if_pos (by omega), Nat.add_sub_cancel_left]; exact i4 _ (by omega)
          exact ⟨w1.to (fun q q1 q2 => by rw [sh q q1 q2, if_pos rfl]; exact z1 q q1 q2) (fun i hi => by rw [sh14, if_pos (by omega), Nat.add_sub_cancel_left]; exact z2 i hi) eS, w2.to eS⟩
        · obtain ⟨w1, w2⟩ := i6 k (by omega)
          have eS : ∀ i, i < 15 → ax_cp B (639 + 1) (639 + 1) (173 + 15 * n) (173 + 15 * la) 15 640 (173 + 15 * k + i) = B 640 (173 + 15 * k + i) := fun i hi => by
            rw [cz, if_neg (by omega)]
          exact ⟨w1.to (fun q q1 q2 => by rw [sh q q1 q2, if_neg e]) (fun i hi => by rw [sh14, if_neg (by omega)]) eS, w2.to eS⟩
set_option maxRecDepth 20000 in
theorem rl_23 (l : Launch) (D : va_G) (T : Nat → ClassId) (o : Nat) : law_P23 l D T o 1000 rl_Rel 0 639 := by
  intro x G I L h
  obtain ⟨r1, r2, ⟨c, k, a1, a2, a3, a4, a5, a6⟩, r4, r5, r6, r7⟩ := id h
  obtain ⟨p, hp, m1, m2, m3⟩ := rl_mvs r2
  have u3 : (nI 3).toInt = 3 := by decide
  have v3 : (3 : Int64).toInt = 3 := by decide
  have hC : (x 1 < 0) ↔ (x 1).toInt < 0 := by rw [Int32.lt_iff_toInt_lt, rl_i0]
  have hB : (nI 3 < x 1) ↔ 3 < (x 1).toInt := by rw [Int32.lt_iff_toInt_lt, u3]
  have h3 : ax_in3 (x 1).toInt64 0 3 = decide (0 ≤ (x 1).toInt ∧ (x 1).toInt ≤ 3) := by rw [rl_in3, rl_l0, v3]
  by_cases hb : x 1 < 0 ∨ nI 3 < x 1
  · exact ay_PI.mk (k_X10_stop_bad l D T o 1000 G I L 0 (x 1) r1.1 hb (by omega)) (k_X11_stop_bad l D T o 1000 G I L 639 (x 1) r1.2.1 (by omega) (by rw [h3]; rw [hC, hB] at hb; exact decide_eq_false (by omega))) rfl h
  · have hin : ax_in3 (x 1).toInt64 0 3 = true := by rw [h3]; rw [hC, hB] at hb; exact decide_eq_true (by omega)
    have K := k_X10_stop l D T o 1000 G I L 0 c k p (x 1) r1.1 a3 a4 a1 a2 m1 hp (fun z => hb (Or.inl z)) (fun z => hb (Or.inr z)) (by omega)
    have fr : ∀ q, (q < 29 ∨ 311 ≤ q) → ax_rem 0 c k I q = I q := fun q hq => ax_rem_ne a1 (by omega)
    have dn : ∀ q, (q < 8 ∨ 15 ≤ q) → (ax_drm (0 + 1) (x 1) p (ax_rem 0 c k I, 0)).1 q = ax_rem 0 c k I q := fun q hq => ax_drm_ne (by omega) p
    obtain ⟨I1, hI1⟩ : ∃ I1, I1 = ax_u (ax_drm (0 + 1) (x 1) p (ax_rem 0 c k I, 0)).1 (0 + 1) 6 (nI (ax_drm (0 + 1) (x 1) p (ax_rem 0 c k I, 0)).2) := ⟨_, rfl⟩
    rw [← hI1] at K
    have f1 : ∀ q, q ≠ 1 → (q < 8 ∨ 15 ≤ q) → I1 q = ax_rem 0 c k I q := fun q z1 z2 => by rw [hI1, ax_u_ne (by omega)]; exact dn q z2
    have f8 : ∀ q, 311 ≤ q → I1 q = I q := fun q hq => (f1 q (by omega) (by omega)).trans (fr q (by omega))
    have e640 : ax_ch 639 k I1 640 = I 640 := (ax_ch_ne (by omega) (by omega)).trans (f8 640 (by omega))
    have S := rl_stops (u := x 1) (A0 := ax_rem 0 c k I) (B0 := ax_ch 639 k I1) hp (fun i hi => by
      rw [e640]
      obtain ⟨w1, w2⟩ := m3 i hi
      exact ⟨w1.to (fun q q1 q2 => by rw [fr q (by omega)]) (fun y hy => by rw [fr 14 (by omega)]) (fun _ _ => rfl), w2⟩) p (Nat.le_refl _)
    obtain ⟨s1, s2, s3, s4, s5, s6⟩ := S
    refine ay_PI.mk K (k_X11_stop l D T o 1000 G I1 L 639 k p (x 1) r1.2.1 (by rw [f8 639 (by omega)]; exact a5) a2 (by rw [f8 (639 + 1) (by omega)]; exact m2) hp hin (by omega)) (congrArg nI s1) ?_
    have g1 : ∀ q, q ≠ 640 → ax_u (ax_stp 639 (x 1) p (ax_ch 639 k I1)).2 (639 + 1) 172 (nI (ax_stp 639 (x 1) p (ax_ch 639 k I1)).1) q = ax_ch 639 k I1 q := fun q hq => by rw [ax_u_ne hq]; exact s3 q hq
    have g2 : ∀ z, z ≠ 172 → ax_u (ax_stp 639 (x 1) p (ax_ch 639 k I1)).2 (639 + 1) 172 (nI (ax_stp 639 (x 1) p (ax_ch 639 k I1)).1) 640 z = (ax_stp 639 (x 1) p (ax_ch 639 k I1)).2 640 z := fun z hz => ax_u_nj hz
    have g3 : ax_u (ax_stp 639 (x 1) p (ax_ch 639 k I1)).2 (639 + 1) 172 (nI (ax_stp 639 (x 1) p (ax_ch 639 k I1)).1) 640 172 = nI (ax_stp 639 (x 1) p (ax_ch 639 k I1)).1 := ax_u_at _ _ _ _
    generalize ax_u (ax_stp 639 (x 1) p (ax_ch 639 k I1)).2 (639 + 1) 172 (nI (ax_stp 639 (x 1) p (ax_ch 639 k I1)).1) = J at *
    have g7 : ∀ q, q < 15 → J q = I1 q := fun q hq => (g1 q (by omega)).trans (ax_ch_ne (by omega) (by omega))
    refine h.chg2 a1 a2 a6 (fun q hq => f1 q (by omega) (by omega)) g1 (r2.moves (p := (ax_stp 639 (x 1) p (ax_ch 639 k I1)).1) (by omega) (fun q z1 z2 => (g7 q (by omega)).trans ((f1 q (by omega) (by omega)).trans (fr q (by omega)))) (fun z hz => by rw [g2 z (by omega), s4 z (by omega), e640]) ?_ g3 (fun i hi => ?_)) (fun _ _ _ => rfl) rfl rfl
    · rw [g7 1 (by omega), ← s1]; exact (congrFun (congrFun hI1 1) 6).trans (ax_u_at _ _ _ _)
    · obtain ⟨w1, w2⟩ := s6 i hi
      have eS : ∀ y, y < 15 → J 640 (173 + 15 * i + y) = (ax_stp 639 (x 1) p (ax_ch 639 k I1)).2 640 (173 + 15 * i + y) := fun y hy => g2 _ (by omega)
      refine ⟨w1.to (fun q q1 q2 => ?_) (fun y hy => ?_) eS, w2.to eS⟩
      · rw [g7 q (by omega), hI1, ax_u_ne (by omega)]
      · rw [g7 14 (by omega), hI1, ax_u_ne (by omega)]
