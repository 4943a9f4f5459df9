/-! ===== a State of the class and a row of the reference ===== -/
/-- the State at the cell b tells what the row S tells -/
def rl_S (b : Nat) (I : ax_I) (S : Nat → Int32) : Prop :=
  (∀ g, g < 6 → I (b + 1) g = S (14 * g) ∧ I (b + 2) g = S (14 * g + 1)) ∧
  (∀ g j, g < 6 → j < 12 → I (b + 3) (12 * g + j) = S (14 * g + 2 + j)) ∧
  (∀ f, f < 8 → I (b + 4) f = S (84 + 11 * f) ∧ (S (84 + 11 * f) = -1 → I (b + 5) f = -1) ∧ (¬ S (84 + 11 * f) = -1 → I (b + 5) f = S (84 + 11 * f + 1))) ∧
  (∀ f j, f < 8 → j < 9 → ¬ S (84 + 11 * f) = -1 → I (b + 6) (9 * f + j) = S (84 + 11 * f + 2 + j)) ∧
  I b 6 = S 172 ∧
  (∀ k, k < 12 → nI k < S 172 → I (b + 7) k = S (173 + 15 * k) ∧ I (b + 8) k = S (173 + 15 * k + 1) ∧ (S (173 + 15 * k) = nI 2 → I (b + 9) k = S (173 + 15 * k + 2) ∧ I (b + 10) k = S (173 + 15 * k + 3) ∧ I (b + 11) k = S (173 + 15 * k + 4) ∧ I (b + 12) k = S (173 + 15 * k + 5) ∧ ∀ j, j < 9 → I (b + 13) (9 * k + j) = S (173 + 15 * k + 6 + j)))
/-- what lies elsewhere may change -/
theorem rl_S.keep {b : Nat} {I J : ax_I} {S : Nat → Int32} (h : rl_S b I S) (hJ : ∀ q, b ≤ q → q < b + 14 → J q = I q) : rl_S b J S := by
  unfold rl_S
  rw [hJ (b + 1) (by omega) (by omega), hJ (b + 2) (by omega) (by omega), hJ (b + 3) (by omega) (by omega), hJ (b + 4) (by omega) (by omega), hJ (b + 5) (by omega) (by omega), hJ (b + 6) (by omega) (by omega), hJ (b + 7) (by omega) (by omega), hJ (b + 8) (by omega) (by omega), hJ (b + 9) (by omega) (by omega), hJ (b + 10) (by omega) (by omega), hJ (b + 11) (by omega) (by omega), hJ (b + 12) (by omega) (by omega), hJ (b + 13) (by omega) (by omega), hJ b (by omega) (by omega)]
  exact h
/-- maps are -1 or there -/
def rl_W0 (S : Nat → Int32) : Prop := ∀ f, f < 8 → S (84 + 11 * f) = -1 ∨ ¬ S (84 + 11 * f) < 0
theorem rl_n1 (g : Nat) (hg : g < 6) : ¬ (-1 : Int32) = nI g := by
  intro h
  have h2 := congrArg Int32.toInt h
  rw [nI_toInt (by omega)] at h2
  have h3 : (-1 : Int32).toInt = -1 := by decide
  omega
/-- a group is new: both take away the maps from it and to it -/
theorem rl_gm {b m g : Nat} {I J : ax_I} (hg : g < 6) (hW : rl_W0 (J (m + 1))) (h : rl_S b I (J (m + 1))) : ∀ n, n ≤ 8 → rl_W0 (ax_gm m g n J (m + 1)) ∧ rl_S b (ax_rnw b (nI g) n I) (ax_gm m g n J (m + 1)) := by
  intro n
  induction n with
  | zero => exact fun _ => ⟨hW, h⟩
  | succ n ih =>
    intro hn
    obtain ⟨w1, h1⟩ := ih (by omega)
    obtain ⟨p1, p2, p3, p4, p5, p6⟩ := h1
    obtain ⟨q1, q2, q3⟩ := p3 n (by omega)
    generalize hA : ax_rnw b (nI g) n I = A at *
    generalize hB : ax_gm m g n J = B at *
    have eA : ax_rnw b (nI g) (n + 1) I = if A (b + 4) n = nI g ∨ A (b + 5) n = nI g then ax_u (ax_u A (b + 4) n (-1)) (b + 5) n (-1) else A := by show (if _ then _ else _) = _; rw [hA]
    have eB : ax_gm m g (n + 1) J = if (!decide (B (m + 1) (84 + 11 * n) < 0)) && (decide (B (m + 1) (84 + 11 * n) = nI g) || decide (B (m + 1) (84 + 11 * n + 1) = nI g)) then ax_u B (m + 1) (84 + 11 * n) (-1) else B := by show (if _ then _ else _) = _; rw [hB]
    rw [eA, eB]
    by_cases c1 : B (m + 1) (84 + 11 * n) = -1
    · have d1 : ¬ (A (b + 4) n = nI g ∨ A (b + 5) n = nI g) := by
        rw [q1, c1, q2 c1]
        exact fun h => h.elim (rl_n1 g hg) (rl_n1 g hg)
      rw [if_neg d1, if_neg (by rw [c1]; simp)]
      exact ⟨w1, p1, p2, p3, p4, p5, p6⟩
    · have c2 : ¬ B (m + 1) (84 + 11 * n) < 0 := (w1 n (by omega)).resolve_left c1
      by_cases c3 : A (b + 4) n = nI g ∨ A (b + 5) n = nI g
      · rw [if_pos c3, if_pos (by rw [q1, q3 c1] at c3; simp [c2, c3])]
        have n1 : ∀ f, f < 8 → ¬ f = n → (ax_u B (m + 1) (84 + 11 * n) (-1)) (m + 1) (84 + 11 * f) = B (m + 1) (84 + 11 * f) := fun f _ hf => ax_u_nj (by omega)
        refine ⟨fun f hf => ?_, fun g' hg' => ?_, fun g' j hg' hj => ?_, fun f hf => ?_, fun f j hf hj hm => ?_, ?_, fun k hk hp => ?_⟩
        · by_cases e : f = n
          · subst e; exact Or.inl (ax_u_at _ _ _ _)
          · rw [n1 f hf e]; exact w1 f hf
        · have n3 : ∀ q, q ≠ b + 4 → q ≠ b + 5 → ax_u (ax_u A (b + 4) n (-1)) (b + 5) n (-1) q = A q := fun q h1 h2 => (ax_u_ne h2).trans (ax_u_ne h1)
          have e1 : ∀ z, z < 84 → (ax_u B (m + 1) (84 + 11 * n) (-1)) (m + 1) z = B (m + 1) z := fun z hz => ax_u_nj (by omega)
          rw [n3 _ (by omega) (by omega), n3 _ (by omega) (by omega), e1 _ (by omega), e1 _ (by omega)]
          exact p1 g' hg'
        · rw [ax_u_ne (by omega), ax_u_ne (by omega), ax_u_nj (by omega)]; exact p2 g' j hg' hj
        · by_cases e : f = n
          · subst e
            rw [ax_u_at, ax_u_at, ax_u_ne (by omega), ax_u_at]
            exact ⟨rfl, fun _ => rfl, fun h => absurd rfl h⟩
          · rw [n1 f hf e, ax_u_ne (by omega), ax_u_nj e, ax_u_nj e, ax_u_ne (by omega), ax_u_nj (by omega)]
            exact p3 f hf
        · by_cases e : f = n
          · subst e; rw [ax_u_at] at hm; exact absurd rfl hm
          · rw [n1 f hf e] at hm
            rw [ax_u_ne (by omega), ax_u_ne (by omega), ax_u_nj (by omega)]
            exact p4 f j hf hj hm
        · rw [ax_u_ne (by omega), ax_u_ne (by omega), ax_u_nj (by omega)]; exact p5
        · have n2 : ∀ z, (ax_u B (m + 1) (84 + 11 * n) (-1)) (m + 1) (172 + z) = B (m + 1) (172 + z) := fun z => ax_u_nj (by omega)
          have n3 : ∀ q, q ≠ b + 4 → q ≠ b + 5 → ax_u (ax_u A (b + 4) n (-1)) (b + 5) n (-1) q = A q := fun q h1 h2 => (ax_u_ne h2).trans (ax_u_ne h1)
          have e1 : ∀ z, 172 ≤ z → (ax_u B (m + 1) (84 + 11 * n) (-1)) (m + 1) z = B (m + 1) z := fun z hz => ax_u_nj (by omega)
          rw [e1 172 (by omega)] at hp
          rw [n3 _ (by omega) (by omega), n3 _ (by omega) (by omega), n3 _ (by omega) (by omega), n3 _ (by omega) (by omega), n3 _ (by omega) (by omega), n3 _ (by omega) (by omega), n3 _ (by omega) (by omega), e1 _ (by omega), e1 _ (by omega), e1 _ (by omega), e1 _ (by omega), e1 _ (by omega), e1 _ (by omega)]
          obtain ⟨r1, r2, r3⟩ := p6 k hk hp
          refine ⟨r1, r2, fun hs => ?_⟩
          obtain ⟨t1, t2, t3, t4, t5⟩ := r3 hs
          exact ⟨t1, t2, t3, t4, fun j hj => by rw [e1 _ (by omega)]; exact t5 j hj⟩
      · rw [if_neg c3, if_neg (by rw [q1, q3 c1] at c3; simp only [not_or] at c3; simp [c2, c3.1, c3.2])]
        exact ⟨w1, p1, p2, p3, p4, p5, p6⟩
