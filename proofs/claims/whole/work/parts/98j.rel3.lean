/-! ===== pairs without mathematics: undo, keep, again, group, relation, map ===== -/
theorem rl_Rel.put {G : ax_G} {I J : ax_I} {L M : ax_L} (h : rl_Rel G I L) (hS : rl_St 1 J (J 640)) (hH : rl_H J) (hK : rl_K J) (h2 : J 311 1 = I 311 1) (h3 : J 312 = I 312) (h4 : ∀ q, 623 ≤ q → q < 639 → J q = I q) (h7 : J 639 29 = I 639 29) (h9 : J 657 = I 657) (h10 : ∀ q, 667 ≤ q → q < 673 → J q = I q)
    (k1 : ∀ q, 623 ≤ q → q < 639 → M q = L q) (k2 : M 669 = L 669) (k3 : M 672 = L 672) : rl_Rel G J M := by
  obtain ⟨r1, r2, r3, r4, ⟨t, b1, b2, b3, b4⟩, r6, r7⟩ := h
  refine ⟨r1, hS, hH, hK, ⟨t, b1, ?_, ?_, ?_⟩, ?_, ?_⟩
  · rw [h2]; exact b2
  · rw [h7]; exact b3
  · intro i hi; rw [h3, h9]; exact b4 i hi
  · intro j hj
    rw [h4 (623 + 2 * j) (by omega) (by omega), h10 667 (by omega) (by omega), h10 668 (by omega) (by omega), k1 (624 + 2 * j) (by omega) (by omega), k2]
    exact r6 j hj
  · intro j hj
    rw [h4 (631 + 2 * j) (by omega) (by omega), h10 670 (by omega) (by omega), h10 671 (by omega) (by omega), k1 (632 + 2 * j) (by omega) (by omega), k3]
    exact r7 j hj
theorem rl_cp353 {I : ax_I} {b a x z : Nat} (hz : z < 353) : ax_cp I b a x 0 353 a z = I b (x + z) := by
  rw [ax_cp_eq]; unfold va_cpy; rw [if_pos (by omega), Nat.sub_zero]
set_option maxRecDepth 20000 in
theorem rl_25 (l : Launch) (D : va_G) (T : Nat → ClassId) (o : Nat) : law_P25 l D T o 1000 rl_Rel 0 639 := by
  intro x G I L h
  obtain ⟨r1, r2, ⟨c, k, a1, a2, a3, a4, a5, a6⟩, r4, r5, r6, r7⟩ := id h
  by_cases hk : k = 0
  · subst hk
    exact ay_PI.mk (k_X10_undo_none l D T o 1000 G I L 0 r1.1 a4) (k_X11_undo l D T o 1000 G I L 639 0 r1.2.1 a5 (by omega) (by omega)) rfl h
  · have hm : (c + 20 - 1) % 20 < 20 := Nat.mod_lt _ (by omega)
    have K := k_X10_undo l D T o 1000 G I L 0 c k r1.1 a3 a4 a1 a2 (by omega) (by omega)
    generalize hI1 : ax_sc (0 + 29 + (2 + 14 * ((c + 20 - 1) % 20))) (0 + 1) (ax_u (ax_u I (0 + 29) 1 (nI ((c + 20 - 1) % 20))) (0 + 29) 2 (nI (k - 1))) = I1 at K
    have f1 : ∀ q, (q < 1 ∨ 15 ≤ q) → q ≠ 29 → I1 q = I q := fun q h1 h2 => by rw [← hI1, ax_sc_ne (by omega), ax_u_ne (by omega), ax_u_ne (by omega)]
    have f2 : I1 29 = ax_u (ax_u I 29 1 (nI ((c + 20 - 1) % 20))) 29 2 (nI (k - 1)) 29 := by rw [← hI1]; exact ax_sc_ne (by omega)
    have f3 : rl_St 1 I1 (fun z => I 642 (353 * (k - 1) + z)) := by
      have h1 := a6 (k - 1) (by omega)
      have e : (c + 20 - k + (k - 1)) % 20 = (c + 20 - 1) % 20 := by omega
      rw [e] at h1
      have h2 : rl_St (31 + 14 * ((c + 20 - 1) % 20)) (ax_u (ax_u I 29 1 (nI ((c + 20 - 1) % 20))) 29 2 (nI (k - 1))) (fun z => I 642 (353 * (k - 1) + z)) := h1.keep (by rw [ax_u_ne (by omega), ax_u_ne (by omega)]) (fun q _ _ => by rw [ax_u_ne (by omega), ax_u_ne (by omega)]) (fun _ _ => rfl)
      have h3 := h2.copy (a := 1) (by omega)
      rw [← hI1, show 0 + 29 + (2 + 14 * ((c + 20 - 1) % 20)) = 31 + 14 * ((c + 20 - 1) % 20) by omega]
      exact h3
    refine ay_PI.mk K (k_X11_undo l D T o 1000 G I1 L 639 k r1.2.1 (by rw [f1 639 (by omega) (by omega)]; exact a5) a2 (by omega)) (by rw [if_neg hk]) ?_
    rw [if_neg hk]
    have g1 : ∀ q, q ≠ 639 → q ≠ 640 → ax_un 639 k I1 q = I1 q := fun q h1 h2 => by unfold ax_un; rw [ax_cp_ne h2, ax_u_ne h1]
    have g2 : ∀ j, j ≠ 3 → ax_un 639 k I1 639 j = I 639 j := fun j hj => by unfold ax_un; rw [ax_cp_ne (by omega), ax_u_nj hj, f1 639 (by omega) (by omega)]
    have g3 : ax_un 639 k I1 639 3 = nI (k - 1) := by unfold ax_un; rw [ax_cp_ne (by omega), ax_u_at]
    have g4 : ∀ z, z < 353 → ax_un 639 k I1 640 z = I 642 (353 * (k - 1) + z) := fun z hz => by unfold ax_un; rw [rl_cp353 hz, ax_u_ne (by omega), f1 (639 + 3) (by omega) (by omega)]
    refine h.put (f3.keep (by rw [g1 1 (by omega) (by omega)]) (fun q _ _ => g1 q (by omega) (by omega)) g4) ⟨(c + 20 - 1) % 20, k - 1, hm, by omega, ?_, ?_, g3, fun i hi => ?_⟩ ?_ ?_ ?_ (fun q h1 h2 => (g1 q (by omega) (by omega)).trans (f1 q (by omega) (by omega))) (g2 29 (by omega)) ((g1 657 (by omega) (by omega)).trans (f1 657 (by omega) (by omega))) (fun q h1 h2 => (g1 q (by omega) (by omega)).trans (f1 q (by omega) (by omega))) (fun _ _ _ => rfl) rfl rfl
    · rw [g1 29 (by omega) (by omega), f2, ax_u_nj (by omega), ax_u_at]
    · rw [g1 29 (by omega) (by omega), f2, ax_u_at]
    · have e : ((c + 20 - 1) % 20 + 20 - (k - 1) + i) % 20 = (c + 20 - k + i) % 20 := by omega
      have hlt : (c + 20 - k + i) % 20 < 20 := Nat.mod_lt _ (by omega)
      rw [e, g1 642 (by omega) (by omega), f1 642 (by omega) (by omega)]
      exact (a6 i (by omega)).keep (by rw [g1 _ (by omega) (by omega), f1 _ (by omega) (by omega)]) (fun q h1 h2 => (g1 q (by omega) (by omega)).trans (f1 q (by omega) (by omega))) (fun _ _ => rfl)
    · rcases r4 with ⟨q1, q2⟩ | ⟨q1, q2, q3⟩
      · exact Or.inl ⟨by rw [g1 0 (by omega) (by omega), f1 0 (by omega) (by omega)]; exact q1, (g2 4 (by omega)).trans q2⟩
      · refine Or.inr ⟨by rw [g1 0 (by omega) (by omega), f1 0 (by omega) (by omega)]; exact q1, (g2 4 (by omega)).trans q2, ?_⟩
        rw [g1 641 (by omega) (by omega), f1 641 (by omega) (by omega)]
        exact q3.keep (by rw [g1 15 (by omega) (by omega), f1 15 (by omega) (by omega)]) (fun q h1 h2 => (g1 q (by omega) (by omega)).trans (f1 q (by omega) (by omega))) (fun _ _ => rfl)
    · rw [g1 311 (by omega) (by omega), f1 311 (by omega) (by omega)]
    · rw [g1 312 (by omega) (by omega), f1 312 (by omega) (by omega)]
set_option maxRecDepth 20000 in
theorem rl_36 (l : Launch) (D : va_G) (T : Nat → ClassId) (o : Nat) : law_P36 l D T o 1000 rl_Rel 0 639 := by
  intro x G I L h
  obtain ⟨r1, r2, ⟨c, k, a1, a2, a3, a4, a5, a6⟩, r4, r5, r6, r7⟩ := id h
  have K := k_X10_keep l D T o 1000 G I L 0 r1.1 (by omega)
  generalize hI1 : ax_u (ax_sc (0 + 1) (0 + 15) I) 0 2 (nI 1) = I1 at K
  have f1 : ∀ q, q ≠ 0 → (q < 15 ∨ 29 ≤ q) → I1 q = I q := fun q h1 h2 => by rw [← hI1, ax_u_ne (by omega), ax_sc_ne (by omega)]
  refine ay_PI.mk K (k_X11_keep l D T o 1000 G I1 L 639 r1.2.1 (by omega)) rfl ?_
  have g1 : ∀ q, q ≠ 639 → q ≠ 641 → ax_u (ax_cp I1 (639 + 1) (639 + 2) 0 0 353) 639 4 1 q = I1 q := fun q h1 h2 => by rw [ax_u_ne h1, ax_cp_ne h2]
  have g2 : ∀ j, j ≠ 4 → ax_u (ax_cp I1 (639 + 1) (639 + 2) 0 0 353) 639 4 1 639 j = I 639 j := fun j hj => by rw [ax_u_nj hj, ax_cp_ne (by omega), f1 639 (by omega) (by omega)]
  have g3 : ax_u (ax_cp I1 (639 + 1) (639 + 2) 0 0 353) 639 4 1 639 4 = nI 1 := ax_u_at _ _ _ _
  have g4 : ∀ z, z < 353 → ax_u (ax_cp I1 (639 + 1) (639 + 2) 0 0 353) 639 4 1 641 z = I 640 z := fun z hz => by rw [ax_u_ne (by omega), show 641 = 639 + 2 by rfl, rl_cp353 hz, f1 _ (by omega) (by omega), Nat.zero_add]
  generalize ax_u (ax_cp I1 (639 + 1) (639 + 2) 0 0 353) 639 4 1 = J at *
  have e1 : ∀ q, q ≠ 0 → (q < 15 ∨ 29 ≤ q) → q ≠ 639 → q ≠ 641 → J q = I q := fun q h1 h2 h3 h4 => (g1 q h3 h4).trans (f1 q h1 h2)
  refine h.put ?_ ⟨c, k, a1, a2, ?_, ?_, ?_, fun i hi => ?_⟩ (Or.inr ⟨?_, g3, ?_⟩) (by rw [e1 311 (by omega) (by omega) (by omega) (by omega)]) (e1 312 (by omega) (by omega) (by omega) (by omega)) (fun q h1 h2 => e1 q (by omega) (by omega) (by omega) (by omega)) (g2 29 (by omega)) (e1 657 (by omega) (by omega) (by omega) (by omega)) (fun q h1 h2 => e1 q (by omega) (by omega) (by omega) (by omega)) (fun _ _ _ => rfl) rfl rfl
  · rw [e1 640 (by omega) (by omega) (by omega) (by omega)]
    exact r2.keep (by rw [e1 1 (by omega) (by omega) (by omega) (by omega)]) (fun q h1 h2 => e1 q (by omega) (by omega) (by omega) (by omega)) (fun _ _ => rfl)
  · rw [e1 29 (by omega) (by omega) (by omega) (by omega)]; exact a3
  · rw [e1 29 (by omega) (by omega) (by omega) (by omega)]; exact a4
  · rw [g2 3 (by omega)]; exact a5
  · have hlt : (c + 20 - k + i) % 20 < 20 := Nat.mod_lt _ (by omega)
    rw [e1 642 (by omega) (by omega) (by omega) (by omega)]
    exact (a6 i hi).keep (by rw [e1 _ (by omega) (by omega) (by omega) (by omega)]) (fun q h1 h2 => e1 q (by omega) (by omega) (by omega) (by omega)) (fun _ _ => rfl)
  · rw [g1 0 (by omega) (by omega), ← hI1, ax_u_at]
  · have h2 := (r2.copy (a := 15) (by omega)).keep (J := J) (S2 := J 641) (by rw [g1 15 (by omega) (by omega), ← hI1, ax_u_ne (by omega)]) (fun q z1 z2 => by rw [g1 q (by omega) (by omega), ← hI1, ax_u_ne (by omega)]) g4
    exact h2
/-- how many maps: the class's count, the reference's -/
theorem rl_count {b : Nat} {I : ax_I} {S : Nat → Int32} (h : rl_St b I S) : ∀ n, n ≤ 8 → ax_cm (I (b + 4)) n = ax_om S n := by
  intro n
  induction n with
  | zero => exact fun _ => rfl
  | succ n ih =>
    intro hn
    show ax_cm _ n + _ = ax_om _ n + _
    rw [ih (by omega), (h.1.2.2.1 n (by omega)).1]
    rcases h.2.2.1 n (by omega) with h1 | ⟨p, r, x, y, h2, -⟩
    · rw [if_pos h1, h1, if_pos (by decide)]
    · rw [h2.2.2.2.2.2.1, if_neg (nI_pos (by have := h2.2.1; omega))]
      rw [if_neg (fun z => by have h3 := congrArg Int32.toInt z; rw [nI_toInt (by have := h2.2.1; omega)] at h3; have h4 : (-1 : Int32).toInt = -1 := by decide
                              omega)]
set_option maxRecDepth 20000 in
theorem rl_37 (l : Launch) (D : va_G) (T : Nat → ClassId) (o : Nat) : law_P37 l D T o 1000 rl_Rel 0 639 := by
  intro x G I L h
  obtain ⟨r1, r2, ⟨c, k, a1, a2, a3, a4, a5, a6⟩, r4, r5, r6, r7⟩ := id h
  rcases r4 with ⟨q1, q2⟩ | ⟨q1, q2, q3⟩
  · exact ay_PI.mk (k_X10_again_no l D T o 1000 G I L 0 r1.1 q1 (by omega)) (k_X11_again_no l D T o 1000 G I L 639 r1.2.1 q2 (by omega)) rfl h
  · have K := k_X10_again l D T o 1000 G I L 0 r1.1 q1 (by omega)
    generalize hI1 : ax_u (ax_sc (0 + 15) (0 + 1) I) (0 + 29) 2 (nI 0) = I1 at K
    have f1 : ∀ q, q ≠ 29 → (q < 1 ∨ 15 ≤ q) → I1 q = I q := fun q h1 h2 => by rw [← hI1, ax_u_ne (by omega), ax_sc_ne (by omega)]
    have f2 : rl_St 1 I1 (I 641) := (q3.copy (a := 1) (by omega)).keep (by rw [← hI1, ax_u_ne (by omega)]) (fun q z1 z2 => by rw [← hI1, ax_u_ne (by omega)]) (fun _ _ => rfl)
    refine ay_PI.mk K (k_X11_again l D T o 1000 G I1 L 639 r1.2.1 ((congrFun (f1 639 (by omega) (by omega)) 4).trans q2) (by omega)) ?_ ?_
    · rw [f1 (639 + 2) (by omega) (by omega)]
      exact congrArg nI (rl_count f2 8 (by omega))
    · have g1 : ∀ q, q ≠ 639 → q ≠ 640 → ax_u (ax_cp I1 (639 + 2) (639 + 1) 0 0 353) 639 3 (nI 0) q = I1 q := fun q h1 h2 => by rw [ax_u_ne h1, ax_cp_ne h2]
      have g2 : ∀ j, j ≠ 3 → ax_u (ax_cp I1 (639 + 2) (639 + 1) 0 0 353) 639 3 (nI 0) 639 j = I 639 j := fun j hj => by rw [ax_u_nj hj, ax_cp_ne (by omega), f1 639 (by omega) (by omega)]
      have g3 : ax_u (ax_cp I1 (639 + 2) (639 + 1) 0 0 353) 639 3 (nI 0) 639 3 = nI 0 := ax_u_at _ _ _ _
      have g4 : ∀ z, z < 353 → ax_u (ax_cp I1 (639 + 2) (639 + 1) 0 0 353) 639 3 (nI 0) 640 z = I 641 z := fun z hz => by rw [ax_u_ne (by omega), show 640 = 639 + 1 by rfl, rl_cp353 hz, f1 _ (by omega) (by omega), Nat.zero_add]
      generalize ax_u (ax_cp I1 (639 + 2) (639 + 1) 0 0 353) 639 3 (nI 0) = J at *
      have e1 : ∀ q, q ≠ 29 → (q < 1 ∨ 15 ≤ q) → q ≠ 639 → q ≠ 640 → J q = I q := fun q h1 h2 h3 h4 => (g1 q h3 h4).trans (f1 q h1 h2)
      refine h.put (f2.keep (by rw [g1 1 (by omega) (by omega)]) (fun q z1 z2 => g1 q (by omega) (by omega)) g4) ⟨c, 0, a1, by omega, ?_, ?_, g3, fun i hi => absurd hi (by omega)⟩ (Or.inr ⟨?_, (g2 4 (by omega)).trans q2, ?_⟩) (by rw [e1 311 (by omega) (by omega) (by omega) (by omega)]) (e1 312 (by omega) (by omega) (by omega) (by omega)) (fun q h1 h2 => e1 q (by omega) (by omega) (by omega) (by omega)) (g2 29 (by omega)) (e1 657 (by omega) (by omega) (by omega) (by omega)) (fun q h1 h2 => e1 q (by omega) (by omega) (by omega) (by omega)) (fun _ _ _ => rfl) rfl rfl
      · rw [g1 29 (by omega) (by omega), ← hI1, ax_u_nj (by omega), ax_sc_ne (by omega)]; exact a3
      · rw [g1 29 (by omega) (by omega), ← hI1, ax_u_at]
      · rw [e1 0 (by omega) (by omega) (by omega) (by omega)]; exact q1
      · rw [e1 641 (by omega) (by omega) (by omega) (by omega)]
        exact q3.keep (by rw [e1 15 (by omega) (by omega) (by omega) (by omega)]) (fun q h1 h2 => e1 q (by omega) (by omega) (by omega) (by omega)) (fun _ _ => rfl)
