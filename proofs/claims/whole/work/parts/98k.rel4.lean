/-! ===== pairs without mathematics: group, relation ===== -/
theorem rl_rng6 (x : Int32) : ax_rng x 6 = ax_in3 x.toInt64 0 5 := rl_rng (m := 6) (by omega) (by omega)
theorem rl_rng8 (x : Int32) : ax_rng x 8 = ax_in3 x.toInt64 0 7 := rl_rng (m := 8) (by omega) (by omega)
theorem rl_rng4 (x : Int32) : ax_rng x 4 = ax_in3 x.toInt64 0 3 := rl_rng (m := 4) (by omega) (by omega)
theorem rl_iw9 (x : Int32) : ax_iw x.toInt64 (nI 9).toInt64 = ax_in3 x.toInt64 (-9) 9 := rfl
theorem rl_iw999 (x : Int32) : ax_iw x.toInt64 (999 : Int32).toInt64 = ax_in3 x.toInt64 (-999) 999 := rfl
theorem rl_m1 {g : Nat} (hg : g < 2 ^ 31) : ¬ nI g = -1 := by
  intro h
  have h2 := congrArg Int32.toInt h
  rw [nI_toInt hg] at h2
  have h3 : (-1 : Int32).toInt = -1 := by decide
  omega
theorem rl_rnw (b : Nat) (v : Int32) (A : ax_I) : ∀ n f, ax_rnw b v n A (b + 4) f = (if f < n ∧ (A (b + 4) f = v ∨ A (b + 5) f = v) then -1 else A (b + 4) f) ∧ ax_rnw b v n A (b + 5) f = (if f < n ∧ (A (b + 4) f = v ∨ A (b + 5) f = v) then -1 else A (b + 5) f) := by
  intro n
  induction n with
  | zero => intro f; rw [if_neg (fun z => Nat.not_lt_zero _ z.1), if_neg (fun z => Nat.not_lt_zero _ z.1)]; exact ⟨rfl, rfl⟩
  | succ n ih =>
    intro f
    have e : ax_rnw b v (n + 1) A = if ax_rnw b v n A (b + 4) n = v ∨ ax_rnw b v n A (b + 5) n = v then ax_u (ax_u (ax_rnw b v n A) (b + 4) n (-1)) (b + 5) n (-1) else ax_rnw b v n A := rfl
    have e1 := (ih n).1
    have e2 := (ih n).2
    rw [if_neg (fun z => Nat.lt_irrefl _ z.1)] at e1 e2
    rw [e, e1, e2]
    by_cases hc : A (b + 4) n = v ∨ A (b + 5) n = v
    · rw [if_pos hc, ax_u_ne (by omega)]
      by_cases hf : f = n
      · subst hf
        rw [ax_u_at, ax_u_at, if_pos ⟨by omega, hc⟩, if_pos ⟨by omega, hc⟩]
        exact ⟨rfl, rfl⟩
      · rw [ax_u_nj hf, ax_u_nj hf, ax_u_ne (by omega), (ih f).1, (ih f).2]
        have hi : (f < n ∧ (A (b + 4) f = v ∨ A (b + 5) f = v)) ↔ (f < n + 1 ∧ (A (b + 4) f = v ∨ A (b + 5) f = v)) := ⟨fun h => ⟨by omega, h.2⟩, fun h => ⟨by omega, h.2⟩⟩
        simp only [hi]
        exact ⟨trivial, trivial⟩
    · rw [if_neg hc, (ih f).1, (ih f).2]
      have hi : (f < n ∧ (A (b + 4) f = v ∨ A (b + 5) f = v)) ↔ (f < n + 1 ∧ (A (b + 4) f = v ∨ A (b + 5) f = v)) := by
        refine ⟨fun h => ⟨by omega, h.2⟩, fun h => ⟨?_, h.2⟩⟩
        have : f ≠ n := fun z => hc (z ▸ h.2)
        omega
      simp only [hi]
      exact ⟨trivial, trivial⟩
theorem ax_rnw_ne {b q : Nat} {v : Int32} {A : ax_I} (h1 : q ≠ b + 4) (h2 : q ≠ b + 5) : ∀ n, ax_rnw b v n A q = A q := by
  intro n
  induction n with
  | zero => rfl
  | succ n ih =>
    have e : ax_rnw b v (n + 1) A = if ax_rnw b v n A (b + 4) n = v ∨ ax_rnw b v n A (b + 5) n = v then ax_u (ax_u (ax_rnw b v n A) (b + 4) n (-1)) (b + 5) n (-1) else ax_rnw b v n A := rfl
    rw [e]
    split
    · rw [ax_u_ne h2, ax_u_ne h1, ih]
    · exact ih
theorem rl_gm (m g : Nat) (B : ax_I) : ∀ n, (∀ q, q ≠ m + 1 → ax_gm m g n B q = B q) ∧ (∀ z, (∀ f, f < n → z ≠ 84 + 11 * f) → ax_gm m g n B (m + 1) z = B (m + 1) z) ∧ ∀ f, f < n → ax_gm m g n B (m + 1) (84 + 11 * f) = if ¬ B (m + 1) (84 + 11 * f) < 0 ∧ (B (m + 1) (84 + 11 * f) = nI g ∨ B (m + 1) (84 + 11 * f + 1) = nI g) then -1 else B (m + 1) (84 + 11 * f) := by
  intro n
  induction n with
  | zero => exact ⟨fun _ _ => rfl, fun _ _ => rfl, fun f hf => absurd hf (by omega)⟩
  | succ n ih =>
    obtain ⟨i1, i2, i3⟩ := ih
    have e : ax_gm m g (n + 1) B = if (!decide (ax_gm m g n B (m + 1) (84 + 11 * n) < 0)) && (decide (ax_gm m g n B (m + 1) (84 + 11 * n) = nI g) || decide (ax_gm m g n B (m + 1) (84 + 11 * n + 1) = nI g)) then ax_u (ax_gm m g n B) (m + 1) (84 + 11 * n) (-1) else ax_gm m g n B := rfl
    rw [e, i2 (84 + 11 * n) (by omega), i2 (84 + 11 * n + 1) (by omega)]
    by_cases hc : ¬ B (m + 1) (84 + 11 * n) < 0 ∧ (B (m + 1) (84 + 11 * n) = nI g ∨ B (m + 1) (84 + 11 * n + 1) = nI g)
    · rw [if_pos (by simpa using hc)]
      refine ⟨fun q hq => by rw [ax_u_ne hq]; exact i1 q hq, fun z hz => by rw [ax_u_nj (hz n (by omega))]; exact i2 z (fun f hf => hz f (by omega)), fun f hf => ?_⟩
      by_cases hfn : f = n
      · subst hfn; rw [ax_u_at, if_pos hc]
      · rw [ax_u_nj (by omega)]; exact i3 f (by omega)
    · rw [if_neg (by simpa using hc)]
      refine ⟨i1, fun z hz => i2 z (fun f hf => hz f (by omega)), fun f hf => ?_⟩
      by_cases hfn : f = n
      · subst hfn; rw [if_neg hc]; exact i2 _ (by omega)
      · exact i3 f (by omega)
theorem ax_ch_oj {m c j : Nat} {I : ax_I} (hj : j ≠ 3) : ax_ch m c I m j = I m j := by
  unfold ax_ch
  split
  · rw [ax_u_nj hj, ax_cp_ne (by omega), ax_u_nj hj, ax_cp_ne (by omega)]
  · rw [ax_u_nj hj, ax_cp_ne (by omega)]
theorem rl_neg {p : Nat} (hp : p < 2 ^ 31) : ¬ nI p < 0 := nI_pos hp
set_option maxRecDepth 20000 in
theorem rl_0 (l : Launch) (D : va_G) (T : Nat → ClassId) (o : Nat) : law_P0 l D T o 1000 rl_Rel 0 639 := by
  intro x G I L h
  obtain ⟨r1, r2, ⟨c, k, a1, a2, a3, a4, a5, a6⟩, r4, r5, r6, r7⟩ := id h
  cases hb : (ax_rng (x 1) 6 && ax_in3 (x 2).toInt64 0 3) with
  | false => exact ay_PI.mk (k_X10_group_bad l D T o 1000 G I L 0 (x 1) (x 2) r1.1 hb (by omega)) (k_X11_group_bad l D T o 1000 G I L 639 (x 1) (x 2) r1.2.1 (by omega) (by rw [← rl_rng6]; exact hb)) rfl h
  | true =>
    rw [Bool.and_eq_true, rl_rng6] at hb
    obtain ⟨g, hg, eg⟩ := ax_in3_nat (h := 5) (by omega) hb.1
    obtain ⟨n, hn, en⟩ := ax_in3_nat (h := 3) (by omega) hb.2
    rw [eg, en]
    have K := k_X10_group l D T o 1000 G I L 0 g n c k r1.1 a3 a4 a1 a2 (by omega) hn (by omega)
    obtain ⟨A, hA⟩ : ∃ A, A = ax_u (ax_u (ax_rem 0 c k I) 2 g (nI n)) 3 g (nI 0) := ⟨_, rfl⟩
    have hI1' : ax_rnw (0 + 1) (nI g) 8 (ax_u (ax_u (ax_u (ax_u (ax_sc (0 + 1) (0 + 29 + (2 + 14 * c)) I) (0 + 29) 1 (nI ((c + 1) % 20))) (0 + 29) 2 (if nI 20 < nI (k + 1) then nI 20 else nI (k + 1))) (0 + 1 + 1) g (nI n)) (0 + 1 + 2) g (nI 0)) = ax_rnw 1 (nI g) 8 A := by rw [hA]; rfl
    rw [hI1'] at K
    have fA : ∀ q, q ≠ 2 → q ≠ 3 → A q = ax_rem 0 c k I q := fun q h1 h2 => by rw [hA, ax_u_ne h2, ax_u_ne h1]
    have fr : ∀ q, (q < 29 ∨ 311 ≤ q) → ax_rem 0 c k I q = I q := fun q hq => ax_rem_ne a1 (by omega)
    generalize hI1 : ax_rnw 1 (nI g) 8 A = I1 at K
    have f1 : ∀ q, q ≠ 5 → q ≠ 6 → I1 q = A q := fun q h1 h2 => by rw [← hI1]; exact ax_rnw_ne (by omega) (by omega) 8
    have f2 : ∀ q, q ≠ 2 → q ≠ 3 → q ≠ 5 → q ≠ 6 → (q < 29 ∨ 311 ≤ q) → I1 q = I q := fun q h1 h2 h3 h4 h5 => (f1 q h3 h4).trans ((fA q h1 h2).trans (fr q h5))
    have Q := k_X11_group l D T o 1000 G I1 L 639 k g n r1.2.1 (by rw [f2 639 (by omega) (by omega) (by omega) (by omega) (by omega)]; exact a5) a2 (by omega) hn (by omega)
    refine ay_PI.mk K Q ?_ ?_
    · rw [f2 (639 + 1) (by omega) (by omega) (by omega) (by omega) (by omega)]
      exact (r2.1.1 g (by omega)).1
    · obtain ⟨B, hB⟩ : ∃ B, B = ax_u (ax_u (ax_ch 639 k I1) (639 + 1) (14 * g) (nI n)) (639 + 1) (14 * g + 1) (nI 0) := ⟨_, rfl⟩
      rw [← hB]
      obtain ⟨b1, b2, b3⟩ := rl_gm 639 g B 8
      have gB : ∀ q, q ≠ 639 → q ≠ 640 → q ≠ 642 → B q = I1 q := fun q h1 h2 h3 => by rw [hB, ax_u_ne h2, ax_u_ne h2]; exact ax_ch_ne h1 h3
      have gB0 : ∀ z, z ≠ 14 * g → z ≠ 14 * g + 1 → B 640 z = I 640 z := fun z h1 h2 => by
        rw [hB]
        show ax_u (ax_u _ 640 _ _) 640 _ _ 640 z = _
        rw [ax_u_nj h2, ax_u_nj h1, ax_ch_ne (by omega) (by omega)]
        exact congrFun (f2 640 (by omega) (by omega) (by omega) (by omega) (by omega)) z
      have gB1 : B 640 (14 * g) = nI n := by
        rw [hB]
        show ax_u (ax_u _ 640 _ _) 640 _ _ 640 _ = _
        rw [ax_u_nj (by omega), ax_u_at]
      have gB2 : B 640 (14 * g + 1) = nI 0 := by
        rw [hB]
        show ax_u (ax_u _ 640 _ _) 640 _ _ 640 _ = _
        rw [ax_u_at]
      have gB3 : ∀ j, B 639 j = ax_ch 639 k I1 639 j := fun j => by rw [hB, ax_u_ne (by omega), ax_u_ne (by omega)]
      have gB4 : B 642 = ax_ch 639 k I1 642 := by rw [hB, ax_u_ne (by omega), ax_u_ne (by omega)]
      generalize hJ : ax_gm 639 g 8 B = J at *
      have s0 : ∀ z, (z < 84 ∨ 172 ≤ z) → J 640 z = B 640 z := fun z hz => b2 z (fun f hf => by omega)
      have s1 : ∀ f j, f < 8 → 0 < j → j < 11 → J 640 (84 + 11 * f + j) = I 640 (84 + 11 * f + j) := fun f j hf hj hj2 => (b2 _ (fun f' hf' => by omega)).trans (gB0 _ (by omega) (by omega))
      have s2 : ∀ f, f < 8 → J 640 (84 + 11 * f) = if ¬ I 640 (84 + 11 * f) < 0 ∧ (I 640 (84 + 11 * f) = nI g ∨ I 640 (84 + 11 * f + 1) = nI g) then -1 else I 640 (84 + 11 * f) := fun f hf => by
        have h1 := b3 f hf
        have e1 : B (639 + 1) (84 + 11 * f) = I 640 (84 + 11 * f) := gB0 _ (by omega) (by omega)
        have e2 : B (639 + 1) (84 + 11 * f + 1) = I 640 (84 + 11 * f + 1) := gB0 _ (by omega) (by omega)
        rw [e1, e2] at h1
        exact h1
      have u1 : ∀ q, 639 ≠ q → q ≠ 640 → q ≠ 642 → J q = I1 q := fun q h1 h2 h3 => (b1 q (by omega)).trans (gB q (by omega) h2 h3)
      have uI : ∀ q, q < 639 → q ≠ 2 → q ≠ 3 → q ≠ 5 → q ≠ 6 → J q = ax_rem 0 c k I q := fun q h0 h1 h2 h3 h4 => (u1 q (by omega) (by omega) (by omega)).trans ((f1 q h3 h4).trans (fA q h1 h2))
      have u2 : J 2 = ax_u I 2 g (nI n) 2 := by
        rw [u1 2 (by omega) (by omega) (by omega), f1 2 (by omega) (by omega), hA, ax_u_ne (by omega), ax_u_eq, ax_u_eq, fr 2 (by omega)]
      have u3 : J 3 = ax_u I 3 g (nI 0) 3 := by
        rw [u1 3 (by omega) (by omega) (by omega), f1 3 (by omega) (by omega), hA, ax_u_eq, ax_u_eq, ax_u_ne (by omega), fr 3 (by omega)]
      have u5 : ∀ f, J 5 f = (if f < 8 ∧ (I 5 f = nI g ∨ I 6 f = nI g) then -1 else I 5 f) ∧ J 6 f = (if f < 8 ∧ (I 5 f = nI g ∨ I 6 f = nI g) then -1 else I 6 f) := fun f => by
        have h1 := rl_rnw 1 (nI g) A 8 f
        have e1 : A (1 + 4) = I 5 := (fA 5 (by omega) (by omega)).trans (fr 5 (by omega))
        have e2 : A (1 + 5) = I 6 := (fA 6 (by omega) (by omega)).trans (fr 6 (by omega))
        rw [hI1, e1, e2] at h1
        rw [u1 5 (by omega) (by omega) (by omega), u1 6 (by omega) (by omega) (by omega)]
        exact h1
      obtain ⟨⟨p1, p2, p3, p4⟩, w1, w2, w3⟩ := r2
      have hm : ∀ f, f < 8 → (I 640 (84 + 11 * f) = -1 ∧ J 640 (84 + 11 * f) = -1 ∧ J 5 f = -1 ∧ J 6 f = -1) ∨ (∃ p r x' y, ax_Mp (I 640) f p r x' y ∧ (∀ i j, i < 3 → j < 3 → ax_in3 (I 640 (84 + 11 * f + 2 + 3 * i + j)).toInt64 (-99) 99 = true ∧ (¬ (i < x' ∧ j < y) → I 640 (84 + 11 * f + 2 + 3 * i + j) = 0)) ∧ ((J 640 (84 + 11 * f) = -1 ∧ J 5 f = -1 ∧ J 6 f = -1) ∨ (p ≠ g ∧ r ≠ g ∧ J 640 (84 + 11 * f) = nI p ∧ J 5 f = nI p ∧ J 6 f = nI r))) := by
        intro f hf
        obtain ⟨q1, q2, q3⟩ := p3 f hf
        rcases w2 f hf with hn1 | ⟨p, r, x', y, hM, ht⟩
        · refine Or.inl ⟨hn1, ?_, ?_, ?_⟩
          · rw [s2 f hf, hn1, if_neg (by intro z; exact z.1 (by decide))]
          · rw [(u5 f).1]; show (if _ then _ else I (1 + 4) f) = _; rw [q1, hn1, ite_self]
          · rw [(u5 f).2]; show (if _ then _ else I (1 + 5) f) = _; rw [q2 hn1, ite_self]
        · refine Or.inr ⟨p, r, x', y, hM, ht, ?_⟩
          obtain ⟨m1, m2, m3, m4, m5, m6, m7, m8, m9⟩ := hM
          have hne : ¬ I 640 (84 + 11 * f) = -1 := by rw [m6]; exact rl_m1 (by omega)
          have e5 : I 5 f = nI p := q1.trans m6
          have e6 : I 6 f = nI r := (q3 hne).1.trans m7
          by_cases hc : p = g ∨ r = g
          · have hc2 : nI p = nI g ∨ nI r = nI g := hc.imp (fun z => by rw [z]) (fun z => by rw [z])
            refine Or.inl ⟨?_, ?_, ?_⟩
            · rw [s2 f hf, m6, m7, if_pos ⟨nI_pos (by omega), hc2⟩]
            · rw [(u5 f).1, e5, e6, if_pos ⟨hf, hc2⟩]
            · rw [(u5 f).2, e5, e6, if_pos ⟨hf, hc2⟩]
          · have hc2 : ¬ (nI p = nI g ∨ nI r = nI g) := by
              rintro (z | z)
              · exact hc (Or.inl ((nI_eq (by omega) (by omega)).mp z))
              · exact hc (Or.inr ((nI_eq (by omega) (by omega)).mp z))
            refine Or.inr ⟨fun z => hc (Or.inl z), fun z => hc (Or.inr z), ?_, ?_, ?_⟩
            · rw [s2 f hf, m6, m7, if_neg (fun z => hc2 z.2)]
            · rw [(u5 f).1, e5, e6, if_neg (fun z => hc2 z.2)]
            · rw [(u5 f).2, e5, e6, if_neg (fun z => hc2 z.2)]
      have hS : rl_St 1 J (J 640) := by
        refine ⟨⟨fun g' hg' => ?_, fun g' r k' hg' hr hk' hq => ?_, fun f hf => ?_, p4.keep ?_ ?_ ?_⟩, fun g' hg' => ?_, fun f hf => ?_, w3.keep ?_⟩
        · show J 2 g' = _ ∧ J 3 g' = _
          rw [u2, u3, s0 _ (by omega), s0 _ (by omega)]
          by_cases e : g' = g
          · subst e; rw [ax_u_at, ax_u_at, gB1, gB2]; exact ⟨rfl, rfl⟩
          · rw [ax_u_nj e, ax_u_nj e, gB0 _ (by omega) (by omega), gB0 _ (by omega) (by omega)]; exact p1 g' hg'
        · rw [s0 _ (by omega)] at hq
          by_cases e : g' = g
          · subst e; rw [gB2] at hq; exact absurd hq (Nat.not_lt_zero _)
          · rw [gB0 _ (by omega) (by omega)] at hq
            rw [s0 _ (by omega), s0 _ (by omega), gB0 _ (by omega) (by omega), gB0 _ (by omega) (by omega)]
            show J 4 _ = _
            rw [uI 4 (by omega) (by omega) (by omega) (by omega) (by omega), fr 4 (by omega)]
            exact p2 g' r k' hg' hr hk' hq
        · show J 5 f = _ ∧ (_ → J 6 f = _) ∧ (_ → J 6 f = _ ∧ ∀ j, j < 9 → J 7 _ = _)
          rcases hm f hf with ⟨t0, t1, t2, t3⟩ | ⟨p, r, x', y, hM, ht, ⟨t1, t2, t3⟩ | ⟨t0, t0', t1, t2, t3⟩⟩
          · rw [t1, t2, t3]; exact ⟨rfl, fun _ => rfl, fun z => absurd rfl z⟩
          · rw [t1, t2, t3]; exact ⟨rfl, fun _ => rfl, fun z => absurd rfl z⟩
          · obtain ⟨m1, m2, m3, m4, m5, m6, m7, m8, m9⟩ := hM
            rw [t1, t2, t3, uI 7 (by omega) (by omega) (by omega) (by omega) (by omega), fr 7 (by omega)]
            refine ⟨rfl, fun z => absurd z (rl_m1 (by omega)), fun _ => ⟨?_, fun j hj => ?_⟩⟩
            · rw [s1 f 1 hf (by omega) (by omega), m7]
            · have e1 := s1 f (2 + j) hf (by omega) (by omega)
              rw [← Nat.add_assoc] at e1
              rw [e1]
              exact ((p3 f hf).2.2 (by rw [m6]; exact rl_m1 (by omega))).2 j hj
        · rw [uI 1 (by omega) (by omega) (by omega) (by omega) (by omega), fr 1 (by omega)]
        · exact fun q h1 h2 => by rw [uI q (by omega) (by omega) (by omega) (by omega) (by omega), fr q (by omega)]
        · exact fun z h1 h2 => by rw [s0 z (by omega), gB0 _ (by omega) (by omega)]
        · by_cases e : g' = g
          · subst e
            exact ⟨n, 0, hn, by omega, by rw [s0 _ (by omega), gB1], by rw [s0 _ (by omega), gB2], fun r k' hr _ => absurd hr (by omega)⟩
          · obtain ⟨n', c', z1, z2, z3, z4, z5⟩ := w1 g' hg'
            exact ⟨n', c', z1, z2, by rw [s0 _ (by omega), gB0 _ (by omega) (by omega)]; exact z3, by rw [s0 _ (by omega), gB0 _ (by omega) (by omega)]; exact z4, fun r k' hr hk' => by rw [s0 _ (by omega), gB0 _ (by omega) (by omega)]; exact z5 r k' hr hk'⟩
        · rcases hm f hf with ⟨t0, t1, t2, t3⟩ | ⟨p, r, x', y, hM, ht, ⟨t1, t2, t3⟩ | ⟨t0, t0', t1, t2, t3⟩⟩
          · exact Or.inl t1
          · exact Or.inl t1
          · obtain ⟨m1, m2, m3, m4, m5, m6, m7, m8, m9⟩ := hM
            refine Or.inr ⟨p, r, x', y, ⟨m1, m2, m3, m4, m5, t1, ?_, ?_, ?_⟩, fun i j hi hj => ?_⟩
            · rw [s1 f 1 hf (by omega) (by omega), m7]
            · rw [s0 _ (by omega), gB0 _ (by omega) (by omega), m8]
            · rw [s0 _ (by omega), gB0 _ (by omega) (by omega), m9]
            · have e1 := s1 f (2 + 3 * i + j) hf (by omega) (by omega)
              rw [← Nat.add_assoc, ← Nat.add_assoc] at e1
              rw [e1]
              exact ht i j hi hj
        · exact fun z h1 h2 => by rw [s0 z (by omega), gB0 _ (by omega) (by omega)]
      refine h.chg (X := I1) a1 a2 a6 hS (fun q h1 h2 => uI q h2 (by omega) (by omega) (by omega) (by omega)) ?_ ?_ ?_ ?_ ?_ ?_ ?_ ?_ ?_ ?_ (fun _ _ _ => rfl) rfl rfl
      · rw [uI 0 (by omega) (by omega) (by omega) (by omega) (by omega), fr 0 (by omega)]
      · rw [b1 639 (by omega), gB3]
      · rw [b1 642 (by omega), gB4]
      · exact f2 640 (by omega) (by omega) (by omega) (by omega) (by omega)
      · exact f2 642 (by omega) (by omega) (by omega) (by omega) (by omega)
      · rw [b1 639 (by omega), gB3, ax_ch_oj (by omega), f2 639 (by omega) (by omega) (by omega) (by omega) (by omega)]
      · rw [b1 639 (by omega), gB3, ax_ch_oj (by omega), f2 639 (by omega) (by omega) (by omega) (by omega) (by omega)]
      · rw [u1 641 (by omega) (by omega) (by omega), f2 641 (by omega) (by omega) (by omega) (by omega) (by omega)]
      · rw [u1 657 (by omega) (by omega) (by omega), f2 657 (by omega) (by omega) (by omega) (by omega) (by omega)]
      · exact fun q h1 h2 => by rw [u1 q (by omega) (by omega) (by omega), f2 q (by omega) (by omega) (by omega) (by omega) (by omega)]
