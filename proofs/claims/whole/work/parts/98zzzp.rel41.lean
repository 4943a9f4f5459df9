/-! ===== pairs: diagram ===== -/
theorem rl_Rel.work4 {G : ax_G} {I J : ax_I} {L M : ax_L} (h : rl_Rel G I L) (hJ : ∀ q, (q < 361 ∨ (623 ≤ q ∧ q ≠ 639 ∧ q ≠ 663)) → J q = I q) (hj : ∀ z, (z = 3 ∨ z = 4 ∨ z = 29) → J 639 z = I 639 z) (hM : ∀ q, ((623 ≤ q ∧ q < 639) ∨ q = 669 ∨ q = 672) → M q = L q) : rl_Rel G J M :=
  h.keep (by rw [hJ 0 (by omega)]) (fun q _ _ => hJ q (by omega)) (by rw [hJ 311 (by omega)]) (hJ 312 (by omega)) (fun q _ _ => hJ q (by omega)) (hj 3 (by omega)) (hj 4 (by omega)) (hj 29 (by omega)) (fun q _ _ => hJ q (by omega)) (hJ 657 (by omega)) (fun q _ _ => hJ q (by omega)) (fun q h1 h2 => hM q (by omega)) (hM 669 (by omega)) (hM 672 (by omega))
theorem gw_first (P : Nat → Bool) : ∀ n, (∀ e, e < n → P e = true) ∨ ∃ e0, e0 < n ∧ P e0 = false ∧ ∀ e, e < e0 → P e = true := by
  intro n
  induction n with
  | zero => exact Or.inl (fun e h => absurd h (Nat.not_lt_zero _))
  | succ n ih =>
    rcases ih with h | ⟨e0, h1, h2, h3⟩
    · cases c : P n with
      | true => exact Or.inl (fun e he => by
          by_cases e1 : e = n
          · subst e1; exact c
          · exact h e (by omega))
      | false => exact Or.inr ⟨n, by omega, c, h⟩
    · exact Or.inr ⟨e0, by omega, h2, h3⟩
theorem gw_agn {L : ax_L} {m j f : Nat} {I : ax_I} (hm : m + 24 ≠ m + 1) : ∀ n, (∀ q, q ≠ m + 24 → (ax_agn L m j f n (I, true)).1 q = I q) ∧ ((∃ e, e < n ∧ (ax_in3 (L (m + 30) (40 * j + f + e)).toInt32.toInt64 0 7 && !decide (I (m + 1) (84 + 11 * (L (m + 30) (40 * j + f + e)).toInt32.toNatClampNeg) < 0)) = false) → (ax_agn L m j f n (I, true)).2 = false) := by
  intro n
  induction n with
  | zero => exact ⟨fun _ _ => rfl, fun ⟨e, h, _⟩ => absurd h (Nat.not_lt_zero _)⟩
  | succ n ih =>
    obtain ⟨i1, i2⟩ := ih
    have u : ax_agn L m j f (n + 1) (I, true) = if (ax_agn L m j f n (I, true)).2 = true then (if (ax_in3 ((L (m + 30) (40 * j + f + n)).toInt32).toInt64 0 7 && !decide ((ax_u (ax_agn L m j f n (I, true)).1 (m + 24) n ((L (m + 30) (40 * j + f + n)).toInt32)) (m + 1) (84 + 11 * ((L (m + 30) (40 * j + f + n)).toInt32).toNatClampNeg) < 0)) = true then (ax_u (ax_agn L m j f n (I, true)).1 (m + 24) n ((L (m + 30) (40 * j + f + n)).toInt32), true) else (ax_u (ax_agn L m j f n (I, true)).1 (m + 24) n ((L (m + 30) (40 * j + f + n)).toInt32), false)) else (ax_u (ax_agn L m j f n (I, true)).1 (m + 24) n ((L (m + 30) (40 * j + f + n)).toInt32), false) := rfl
    generalize ax_agn L m j f n (I, true) = X at *
    rw [ax_u_ne hm.symm, i1 (m + 1) hm.symm] at u
    have k1 : ∀ q, q ≠ m + 24 → ax_u X.1 (m + 24) n ((L (m + 30) (40 * j + f + n)).toInt32) q = I q := fun q hq => (ax_u_ne hq).trans (i1 q hq)
    cases c : X.2 with
    | false => rw [c, if_neg (by decide)] at u; rw [u]; exact ⟨k1, fun _ => rfl⟩
    | true =>
      rw [c, if_pos rfl] at u
      cases c2 : (ax_in3 ((L (m + 30) (40 * j + f + n)).toInt32).toInt64 0 7 && !decide (I (m + 1) (84 + 11 * ((L (m + 30) (40 * j + f + n)).toInt32).toNatClampNeg) < 0)) with
      | false => rw [c2, if_neg (by decide)] at u; rw [u]; exact ⟨k1, fun _ => rfl⟩
      | true =>
        rw [c2, if_pos rfl] at u
        rw [u]
        refine ⟨k1, fun ⟨e, h1, h2⟩ => ?_⟩
        by_cases e1 : e = n
        · subst e1; rw [c2] at h2; cases h2
        · exact absurd (i2 ⟨e, by omega, h2⟩) (by rw [c]; decide)
set_option maxRecDepth 20000 in
/-- seven numbers are read -/
theorem gw_read {G : ax_G} {I : ax_I} {L : ax_L} (h : rl_Rel G I L) {j f z : Nat} (hj : j < 4) (hz4 : z ≤ 40) (hf7 : f + 7 ≤ z) {gn gc : Nat → Nat} (hsn : ∀ g, g < 6 → I 640 (14 * g) = nI (gn g) ∧ gn g ≤ 3) (hsc : ∀ g, g < 6 → I 640 (14 * g + 1) = nI (gc g) ∧ gc g ≤ 4) :
    (∃ (e0 : Nat) (mp fr : Nat → Nat), e0 < 7 ∧ (∀ e, e < e0 → (L (0 + (624 + 2 * j)) (f + e)).toInt32 = nI (mp e) ∧ mp e < 8) ∧ (∀ e, e < e0 → I (0 + 1 + 4) (mp e) = nI (fr e) ∧ fr e < 6) ∧ (ax_in3 (L (0 + (624 + 2 * j)) (f + e0)).toInt32.toInt64 0 7 && !decide (I (0 + 1 + 4) (L (0 + (624 + 2 * j)) (f + e0)).toInt32.toNatClampNeg = -1)) = false ∧ (ax_agn L 639 j f 7 (I, true)).2 = false) ∨
    (∃ mp fr tg : Nat → Nat, (∀ e, e < 7 → (L (0 + (624 + 2 * j)) (f + e)).toInt32 = nI (mp e) ∧ mp e < 8) ∧ (∀ e, e < 7 → I (0 + 1 + 4) (mp e) = nI (fr e) ∧ fr e < 6) ∧ (∀ e, e < 7 → I (0 + 1 + 5) (mp e) = nI (tg e) ∧ tg e < 6) ∧
      (∀ e, e < 7 → (L (639 + 30) (40 * j + f + e)).toInt32 = nI (mp e)) ∧ (∀ k, k < 7 → I 640 (84 + 11 * mp k) = nI (fr k) ∧ fr k < 6) ∧ (∀ k, k < 7 → I 640 (84 + 11 * mp k + 1) = nI (tg k) ∧ tg k < 6) ∧ gw_M I (I 640) mp fr tg gn) := by
  obtain ⟨r1, r2, r3, r4, r5, r6, r7⟩ := id h
  obtain ⟨-, -, -, p5⟩ := r6 j hj
  have eL : ∀ e, e < 7 → L (0 + (624 + 2 * j)) (f + e) = L 669 (40 * j + f + e) := fun e he => by
    rw [Nat.zero_add, p5 (f + e) (by omega), Nat.add_assoc]
  have good : ∀ e, e < 7 → (ax_in3 (L 669 (40 * j + f + e)).toInt32.toInt64 0 7 && !decide (I (1 + 4) (L 669 (40 * j + f + e)).toInt32.toNatClampNeg = -1)) = true →
      ((L 669 (40 * j + f + e)).toInt32 = nI (L 669 (40 * j + f + e)).toInt32.toNatClampNeg ∧ (L 669 (40 * j + f + e)).toInt32.toNatClampNeg < 8) ∧
      (I 5 (L 669 (40 * j + f + e)).toInt32.toNatClampNeg = nI (I 640 (84 + 11 * (L 669 (40 * j + f + e)).toInt32.toNatClampNeg)).toNatClampNeg ∧ (I 640 (84 + 11 * (L 669 (40 * j + f + e)).toInt32.toNatClampNeg)).toNatClampNeg < 6) ∧
      (I 6 (L 669 (40 * j + f + e)).toInt32.toNatClampNeg = nI (I 640 (84 + 11 * (L 669 (40 * j + f + e)).toInt32.toNatClampNeg + 1)).toNatClampNeg ∧ (I 640 (84 + 11 * (L 669 (40 * j + f + e)).toInt32.toNatClampNeg + 1)).toNatClampNeg < 6) ∧
      I 640 (84 + 11 * (L 669 (40 * j + f + e)).toInt32.toNatClampNeg) = nI (I 640 (84 + 11 * (L 669 (40 * j + f + e)).toInt32.toNatClampNeg)).toNatClampNeg ∧ I 640 (84 + 11 * (L 669 (40 * j + f + e)).toInt32.toNatClampNeg + 1) = nI (I 640 (84 + 11 * (L 669 (40 * j + f + e)).toInt32.toNatClampNeg + 1)).toNatClampNeg ∧
      ax_Mp (I 640) (L 669 (40 * j + f + e)).toInt32.toNatClampNeg (I 640 (84 + 11 * (L 669 (40 * j + f + e)).toInt32.toNatClampNeg)).toNatClampNeg (I 640 (84 + 11 * (L 669 (40 * j + f + e)).toInt32.toNatClampNeg + 1)).toNatClampNeg (gn (I 640 (84 + 11 * (L 669 (40 * j + f + e)).toInt32.toNatClampNeg)).toNatClampNeg) (gn (I 640 (84 + 11 * (L 669 (40 * j + f + e)).toInt32.toNatClampNeg + 1)).toNatClampNeg) ∧
      (∀ z, z < 9 → I 7 (9 * (L 669 (40 * j + f + e)).toInt32.toNatClampNeg + z) = I 640 (84 + 11 * (L 669 (40 * j + f + e)).toInt32.toNatClampNeg + 2 + z)) ∧ ∀ a b, a < 3 → b < 3 → gn (I 640 (84 + 11 * (L 669 (40 * j + f + e)).toInt32.toNatClampNeg + 1)).toNatClampNeg ≤ b → I 640 (84 + 11 * (L 669 (40 * j + f + e)).toInt32.toNatClampNeg + 2 + 3 * a + b) = 0 := fun e he hg => by
    obtain ⟨k, p, r, x, y, ej, hM, e1, e2, e3, e4⟩ := rl_mapAt r2 hg
    obtain ⟨m1, m2, m3, m4, m5, m6, m7, m8, m9⟩ := id hM
    have ea : gn p = x := (nI_eq (by have := (hsn p m2).2; omega) (by omega)).mp ((hsn p m2).1.symm.trans m8)
    have eb : gn r = y := (nI_eq (by have := (hsn r m3).2; omega) (by omega)).mp ((hsn r m3).1.symm.trans m9)
    subst ea eb
    generalize (L 669 (40 * j + f + e)).toInt32 = v at *
    subst ej
    rw [nI_clamp (by omega), m6, m7, nI_clamp (by omega), nI_clamp (by omega)]
    exact ⟨⟨rfl, m1⟩, ⟨e1, m2⟩, ⟨e2, m3⟩, rfl, rfl, hM, e3, fun a b h1 h2 h3 => (e4 a b h1 h2).2 (by omega)⟩
  rcases gw_first (fun e => ax_in3 (L 669 (40 * j + f + e)).toInt32.toInt64 0 7 && !decide (I (1 + 4) (L 669 (40 * j + f + e)).toInt32.toNatClampNeg = -1)) 7 with hg | ⟨e0, h1, h2, h3⟩
  · refine Or.inr ⟨fun e => (L 669 (40 * j + f + e)).toInt32.toNatClampNeg, fun e => (I 640 (84 + 11 * (L 669 (40 * j + f + e)).toInt32.toNatClampNeg)).toNatClampNeg, fun e => (I 640 (84 + 11 * (L 669 (40 * j + f + e)).toInt32.toNatClampNeg + 1)).toNatClampNeg, fun e he => ?_, fun e he => ?_, fun e he => ?_, fun e he => ?_, fun e he => ?_, fun e he => ?_, fun e he => ?_⟩
    · rw [eL e he]; exact (good e he (hg e he)).1
    · exact (good e he (hg e he)).2.1
    · exact (good e he (hg e he)).2.2.1
    · exact (good e he (hg e he)).1.1
    · exact ⟨(good e he (hg e he)).2.2.2.1, (good e he (hg e he)).2.1.2⟩
    · exact ⟨(good e he (hg e he)).2.2.2.2.1, (good e he (hg e he)).2.2.1.2⟩
    · exact (good e he (hg e he)).2.2.2.2.2
  · refine Or.inl ⟨e0, fun e => (L 669 (40 * j + f + e)).toInt32.toNatClampNeg, fun e => (I 640 (84 + 11 * (L 669 (40 * j + f + e)).toInt32.toNatClampNeg)).toNatClampNeg, h1, fun e he => ?_, fun e he => ?_, ?_, ?_⟩
    · rw [eL e (by omega)]; exact (good e (by omega) (h3 e he)).1
    · exact (good e (by omega) (h3 e he)).2.1
    · rw [eL e0 h1]; exact h2
    · exact (gw_agn (m := 639) (by omega) 7).2 ⟨e0, h1, (rl_isMap r2 _).symm.trans h2⟩
theorem gw_fit {fr tg : Nat → Nat} : (ax_rdv fr tg = true ∧ gw_E fr tg ∧ ax_agv fr tg = nI 0) ∨ (ax_rdv fr tg = false ∧ ax_agv fr tg = -3) := by
  by_cases e : gw_E fr tg
  · obtain ⟨e1, e2, e3, e4, e5, e6, e7, e8⟩ := id e
    refine Or.inl ⟨?_, e, ?_⟩
    · unfold ax_rdv
      rw [if_pos e1, if_pos e2, if_pos e3, if_pos e4, if_pos e5, if_pos e6, if_pos e7, if_pos e8]
    · unfold ax_agv
      rw [if_pos e1, if_pos e3, if_pos e5.symm, if_pos e6, if_pos e2.symm, if_pos e4.symm, if_pos e7.symm, if_pos e8]
  · refine Or.inr ⟨?_, ?_⟩
    · unfold ax_rdv
      repeat' split
      · rename_i e1 e2 e3 e4 e5 e6 e7 e8
        exact absurd ⟨e1, e2, e3, e4, e5, e6, e7, e8⟩ e
      all_goals rfl
    · unfold ax_agv
      repeat' split
      · rename_i e1 e2 e3 e4 e5 e6 e7 e8
        exact absurd ⟨e1, e5.symm, e2, e6.symm, e3.symm, e4, e7.symm, e8⟩ e
      all_goals rfl
