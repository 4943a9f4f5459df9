/-! ===== pairs: many ===== -/
set_option maxRecDepth 20000 in
theorem rl_sow {I : ax_I} {L : ax_L} {S : Nat → Int32} {gn gc fr tg : Nat → Nat} {Ir : ax_I} {Lr : ax_L} (hSt : rl_St 1 I S) (hsn : ∀ g, g < 6 → S (14 * g) = nI (gn g) ∧ gn g ≤ 3) (hsc : ∀ g, g < 6 → S (14 * g + 1) = nI (gc g) ∧ gc g ≤ 4) (hm : ∀ f, f < 8 → (I 5 f = -1 ∧ S (84 + 11 * f) < 0) ∨ (∃ x y, ax_Mp S f (fr f) (tg f) x y ∧ I 5 f = nI (fr f) ∧ I 6 f = nI (tg f) ∧ ∀ i, i < 9 → I 7 (9 * f + i) = S (84 + 11 * f + 2 + i))) (hI : Ir 640 = S) : ∀ n, n ≤ 8 →
    (∃ m, m < 2 ^ n ∧ (ax_sow 0 fr tg gn gc n (I, L, nI 0)).2.2 = nI m ∧ (ax_omw 639 fr tg gn gc S n (Ir, Lr, nI 0)).2.2 = nI m) ∧ (∀ q, q ≠ 484 → q ≠ 493 → (ax_sow 0 fr tg gn gc n (I, L, nI 0)).1 q = I q) ∧ (∀ q, (q < 486 ∨ 539 < q) → (ax_sow 0 fr tg gn gc n (I, L, nI 0)).2.1 q = L q) ∧ (∀ q, q ≠ 639 → (ax_omw 639 fr tg gn gc S n (Ir, Lr, nI 0)).1 q = Ir q) ∧ (∀ y, y ≠ 6 → (ax_omw 639 fr tg gn gc S n (Ir, Lr, nI 0)).1 639 y = Ir 639 y) ∧ ∀ q, q ≠ 643 → q ≠ 648 → q ≠ 649 → q ≠ 650 → (ax_omw 639 fr tg gn gc S n (Ir, Lr, nI 0)).2.1 q = Lr q := by
  intro n
  induction n with
  | zero => exact fun _ => ⟨⟨0, by decide, rfl, rfl⟩, fun _ _ _ => rfl, fun _ _ => rfl, fun _ _ => rfl, fun _ _ => rfl, fun _ _ _ _ _ => rfl⟩
  | succ n ih =>
    intro hn
    obtain ⟨⟨m, hm2, i1, i2⟩, i3, i4, i5, i6, i7⟩ := ih (by omega)
    have u1 : ax_sow 0 fr tg gn gc (n + 1) (I, L, nI 0) = if (!decide ((ax_sow 0 fr tg gn gc n (I, L, nI 0)).1 5 n = -1)) = true then (if ax_ldv (ax_sow 0 fr tg gn gc n (I, L, nI 0)).1 (ax_sow 0 fr tg gn gc n (I, L, nI 0)).2.1 483 1 n (fr n) (tg n) (gn (fr n)) (gc (fr n)) (gn (tg n)) (gc (tg n)) = true then (ax_ldI (ax_sow 0 fr tg gn gc n (I, L, nI 0)).1 483 (gn (fr n)) (gn (tg n)), ax_ldL (ax_sow 0 fr tg gn gc n (I, L, nI 0)).1 (ax_sow 0 fr tg gn gc n (I, L, nI 0)).2.1 483 1 n (fr n) (tg n) (gn (fr n)) (gc (fr n)) (gn (tg n)) (gc (tg n)), (ax_sow 0 fr tg gn gc n (I, L, nI 0)).2.2 ||| ((nI 1) <<< (nI n &&& 31))) else (ax_ldI (ax_sow 0 fr tg gn gc n (I, L, nI 0)).1 483 (gn (fr n)) (gn (tg n)), ax_ldL (ax_sow 0 fr tg gn gc n (I, L, nI 0)).1 (ax_sow 0 fr tg gn gc n (I, L, nI 0)).2.1 483 1 n (fr n) (tg n) (gn (fr n)) (gc (fr n)) (gn (tg n)) (gc (tg n)), (ax_sow 0 fr tg gn gc n (I, L, nI 0)).2.2)) else ((ax_sow 0 fr tg gn gc n (I, L, nI 0)).1, (ax_sow 0 fr tg gn gc n (I, L, nI 0)).2.1, (ax_sow 0 fr tg gn gc n (I, L, nI 0)).2.2) := rfl
    have u2 : ax_omw 639 fr tg gn gc S (n + 1) (Ir, Lr, nI 0) = if (!decide ((ax_omw 639 fr tg gn gc S n (Ir, Lr, nI 0)).1 640 (84 + 11 * n) < 0)) = true then (if (ax_wl 639 n (fr n) (tg n) (gn (fr n)) (gn (tg n)) (gc (fr n)) (gc (tg n)) S (ax_omw 639 fr tg gn gc S n (Ir, Lr, nI 0)).2.1).1 = true then (ax_u (ax_omw 639 fr tg gn gc S n (Ir, Lr, nI 0)).1 639 6 (nI (gc (tg n))), (ax_wl 639 n (fr n) (tg n) (gn (fr n)) (gn (tg n)) (gc (fr n)) (gc (tg n)) S (ax_omw 639 fr tg gn gc S n (Ir, Lr, nI 0)).2.1).2, (ax_omw 639 fr tg gn gc S n (Ir, Lr, nI 0)).2.2 + ((nI 1) <<< (nI n &&& 31))) else (ax_u (ax_omw 639 fr tg gn gc S n (Ir, Lr, nI 0)).1 639 6 (nI (gc (tg n))), (ax_wl 639 n (fr n) (tg n) (gn (fr n)) (gn (tg n)) (gc (fr n)) (gc (tg n)) S (ax_omw 639 fr tg gn gc S n (Ir, Lr, nI 0)).2.1).2, (ax_omw 639 fr tg gn gc S n (Ir, Lr, nI 0)).2.2 + (nI 0))) else ((ax_omw 639 fr tg gn gc S n (Ir, Lr, nI 0)).1, (ax_omw 639 fr tg gn gc S n (Ir, Lr, nI 0)).2.1, (ax_omw 639 fr tg gn gc S n (Ir, Lr, nI 0)).2.2 + (nI 0)) := rfl
    generalize (ax_sow 0 fr tg gn gc n (I, L, nI 0)) = C at u1 i1 i3 i4
    generalize (ax_omw 639 fr tg gn gc S n (Ir, Lr, nI 0)) = R at u2 i2 i5 i6 i7
    have hp : m < 2 ^ (n + 1) := by rw [Nat.pow_succ]; omega
    have hp2 : m + 2 ^ n < 2 ^ (n + 1) := by rw [Nat.pow_succ]; omega
    rw [i3 5 (by omega) (by omega)] at u1
    rw [i5 640 (by omega), hI] at u2
    rcases hm n (by omega) with ⟨e1, e2⟩ | ⟨x, y, hM, e1, e2, e3⟩
    · rw [if_neg (by rw [decide_eq_true e1]; decide)] at u1
      rw [if_neg (by rw [decide_eq_true e2]; decide)] at u2
      rw [u1, u2]
      refine ⟨⟨m, hp, i1, ?_⟩, i3, i4, i5, i6, i7⟩
      show R.2.2 + nI 0 = nI m
      rw [i2]; exact Int32.add_zero _
    · obtain ⟨m1, m2, m3, m4, m5, m6, m7, m8, m9⟩ := id hM
      rw [if_pos (by rw [decide_eq_false (by rw [e1]; exact rl_m1 (by omega))]; rfl)] at u1
      rw [if_pos (by rw [decide_eq_false (by rw [m6]; exact nI_pos (by omega))]; rfl)] at u2
      have hSt' : rl_St 1 C.1 S := hSt.keep (by rw [i3 1 (by omega) (by omega)]) (fun q h1 h2 => i3 q (by omega) (by omega)) (fun _ _ => rfl)
      obtain ⟨w1, w2, w3⟩ := rl_well (Lc := C.2.1) (Lr := R.2.1) hSt' hsn hsc hM (fun i hi => by rw [i3 7 (by omega) (by omega)]; exact e3 i hi)
      have g1 : ∀ q, q ≠ 484 → q ≠ 493 → ax_ldI C.1 483 (gn (fr n)) (gn (tg n)) q = I q := fun q h1 h2 => by
        show ax_u (ax_u C.1 484 2 _) 493 2 _ q = _
        rw [ax_u_ne h2, ax_u_ne h1]; exact i3 q h1 h2
      have g2 : ∀ q, q ≠ 639 → ax_u R.1 639 6 (nI (gc (tg n))) q = Ir q := fun q h1 => by rw [ax_u_ne h1]; exact i5 q h1
      have g3 : ∀ y, y ≠ 6 → ax_u R.1 639 6 (nI (gc (tg n))) 639 y = Ir 639 y := fun y h1 => by rw [ax_u_nj h1]; exact i6 y h1
      rw [w1] at u1
      obtain ⟨bt1, bt2⟩ := rl_bit n (by omega) m hm2
      cases hb : (ax_wl 639 n (fr n) (tg n) (gn (fr n)) (gn (tg n)) (gc (fr n)) (gc (tg n)) S R.2.1).1 with
      | true =>
        rw [hb] at u1 u2
        rw [if_pos rfl] at u1 u2
        rw [u1, u2]
        exact ⟨⟨m + 2 ^ n, hp2, (by show C.2.2 ||| _ = _; rw [i1]; exact bt1), (by show R.2.2 + _ = _; rw [i2]; exact bt2)⟩, g1, fun q hq => (w2 q hq).trans (i4 q hq), g2, g3, fun q h1 h2 h3 h4 => (w3 q h1 h2 h3 h4).trans (i7 q h1 h2 h3 h4)⟩
      | false =>
        rw [hb] at u1 u2
        rw [if_neg (by decide)] at u1 u2
        rw [u1, u2]
        exact ⟨⟨m, hp, i1, (by show R.2.2 + nI 0 = _; rw [i2]; exact Int32.add_zero _)⟩, g1, fun q hq => (w2 q hq).trans (i4 q hq), g2, g3, fun q h1 h2 h3 h4 => (w3 q h1 h2 h3 h4).trans (i7 q h1 h2 h3 h4)⟩
theorem rl_smo {f : Nat → Int32} {S : Nat → Int32} {wh : Nat} (h : ∀ g, g < 6 → f g = S (14 * g + wh)) : ∀ n, n ≤ 6 → ax_smo f n (nI 0) = ax_og S wh n := by
  intro n
  induction n with
  | zero => exact fun _ => rfl
  | succ n ih =>
    intro hn
    show ax_smo f n (nI 0) + f n = ax_og S wh n + S (14 * n + wh)
    rw [ih (by omega), h n (by omega)]
set_option maxRecDepth 20000 in
theorem rl_35 (l : Launch) (D : va_G) (T : Nat → ClassId) (o : Nat) : law_P35 l D T o 1000 rl_Rel 0 639 := by
  intro x G I L h
  obtain ⟨r1, r2, r3, r4, r5, r6, r7⟩ := id h
  by_cases hb : (x 1).toInt < 0 ∨ 6 < (x 1).toInt
  · exact ay_PI.mk (k_X10_many_bad l D T o 1000 G I L 0 (x 1) r1.1 hb (by omega)) (k_X11_many_bad l D T o 1000 G I L 639 (x 1) r1.2.1 hb (by omega)) rfl h
  · have hin : ax_in3 (x 1).toInt64 0 6 = true := by
      rw [rl_in3, decide_eq_true_eq]
      have h0 : (0 : Int64).toInt = 0 := rfl
      have h6 : (6 : Int64).toInt = 6 := rfl
      omega
    obtain ⟨j, hj, ej⟩ := ax_in3_nat (h := 6) (by omega) hin
    rw [ej]
    rcases (show j = 0 ∨ j = 1 ∨ j = 2 ∨ j = 3 ∨ j = 4 ∨ j = 5 ∨ j = 6 by omega) with rfl | rfl | rfl | rfl | rfl | rfl | rfl
    · exact ay_PI.mk (k_X10_many_0 l D T o 1000 G I L 0 r1.1 (by omega)) (k_X11_many_0 l D T o 1000 G I L 639 r1.2.1 (by omega)) (rl_smo (S := I 640) (wh := 0) (fun g hg => (r2.1.1 g hg).1) 6 (by omega)) h
    · exact ay_PI.mk (k_X10_many_1 l D T o 1000 G I L 0 r1.1 (by omega)) (k_X11_many_1 l D T o 1000 G I L 639 r1.2.1 (by omega)) (rl_smo (S := I 640) (wh := 1) (fun g hg => (r2.1.1 g hg).2) 6 (by omega)) h
    · exact ay_PI.mk (k_X10_many_2 l D T o 1000 G I L 0 r1.1 (by omega)) (k_X11_many_2 l D T o 1000 G I L 639 r1.2.1 (by omega)) (congrArg nI (rl_count r2 8 (by omega))) h
    · obtain ⟨gn, gc, hgn, hgc, hsn, hsc⟩ := rl_gngc r2
      obtain ⟨fr, tg, hm⟩ := rl_mf r2
      have K := k_X10_many_3 l D T o 1000 G I L 0 fr tg gn gc r1.1 hgn hgc (fun f hf => by
        rcases hm f hf with ⟨e1, -⟩ | ⟨x', y', hM, e1, e2, -⟩
        · exact Or.inl e1
        · exact Or.inr ⟨e1, hM.2.1, e2, hM.2.2.1⟩) (by omega)
      have RU := fun Ir Lr hI => rl_sow (I := I) (L := L) (Ir := Ir) (Lr := Lr) r2 hsn hsc hm hI 8 (by omega)
      generalize ax_sow 0 fr tg gn gc 8 (I, L, nI 0) = C at K RU
      have hC : C.1 640 = I 640 := (RU (fun _ => I 640) L rfl).2.1 640 (by omega) (by omega)
      obtain ⟨⟨m, hm2, i1, i2⟩, i3, i4, i5, i6, i7⟩ := RU C.1 C.2.1 hC
      have R := k_X11_many_3 l D T o 1000 G C.1 C.2.1 639 fr tg gn gc (I 640) r1.2.1 hC hsn hsc (rl_N1k r2.2.1 hsn hsc) (fun f hf => by
        rcases hm f hf with ⟨-, e1⟩ | ⟨x', y', hM, -⟩
        · exact Or.inl e1
        · obtain ⟨m1, m2, m3, m4, m5, m6, m7, -⟩ := hM
          exact Or.inr ⟨m6, m2, m7, m3⟩) (by omega)
      refine ay_PI.mk K R (i1.trans i2.symm) (h.work2 (fun q hq => ?_) (fun z hz => ?_) (fun q hq => ?_))
      · exact (i5 q (by omega)).trans (i3 q (by omega) (by omega))
      · rw [i6 z (by omega), i3 639 (by omega) (by omega)]
      · exact (i7 q (by omega) (by omega) (by omega) (by omega)).trans (i4 q (by omega))
    · exact ay_PI.mk (k_X10_many_4 l D T o 1000 G I L 0 r1.1 (by omega)) (k_X11_many_4 l D T o 1000 G I L 639 r1.2.1 (by omega)) r2.1.2.2.2.1 h
    · obtain ⟨c, k, a1, a2, a3, a4, a5, a6⟩ := r3
      exact ay_PI.mk (k_X10_many_5 l D T o 1000 G I L 0 r1.1 (by omega)) (k_X11_many_5 l D T o 1000 G I L 639 r1.2.1 (by omega)) (a4.trans a5.symm) h
    · obtain ⟨t, b1, b2, b3, -⟩ := r5
      exact ay_PI.mk (k_X10_many_6 l D T o 1000 G I L 0 r1.1 (by omega)) (k_X11_many_6 l D T o 1000 G I L 639 r1.2.1 (by omega)) (b2.trans b3.symm) h
