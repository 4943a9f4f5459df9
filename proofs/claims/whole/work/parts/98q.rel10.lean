/-! ===== pairs without mathematics: taken, add ===== -/
set_option maxRecDepth 20000 in
theorem rl_34 (l : Launch) (D : va_G) (T : Nat → ClassId) (o : Nat) : law_P34 l D T o 1000 rl_Rel 0 639 := by
  intro x G I L h
  obtain ⟨r1, r2, r3, r4, r5, r6, r7⟩ := id h
  have R := fun a b => k_X11_taken l D T o 1000 G I L 639 a b r1.2.1 (by omega)
  cases hj1 : ax_rng (x 1) 4 with
  | false =>
    refine ay_PI.mk (k_X10_taken_bad l D T o 1000 G I L 0 (x 1) (x 2) r1.1 hj1 (by omega)) (R (x 1) (x 2)) ?_ h
    unfold an_taken
    rw [← rl_rng4, hj1, if_pos (by rfl)]
  | true =>
    rw [rl_rng4] at hj1
    obtain ⟨j, hj, ej⟩ := ax_in3_nat (h := 3) (by omega) hj1
    rw [ej] at hj1 ⊢
    have z1 : 0 + (631 + 2 * j) = 631 + 2 * j := by omega
    refine ay_PI.mk (k_X10_taken l D T o 1000 G I L 0 j (x 2) r1.1 (by omega) (by omega)) (R (nI j) (x 2)) ?_ h
    have u10 : (nI 10).toInt = 10 := by decide
    have u12 : (nI 12).toInt = 12 := by decide
    have v5 : (5 : Int64).toInt = 5 := by decide
    have v10 : (10 : Int64).toInt = 10 := by decide
    have v12 : (12 : Int64).toInt = 12 := by decide
    have hA : (x 2 < nI 10) ↔ (x 2).toInt < 10 := by rw [Int32.lt_iff_toInt_lt, u10]
    have hB : (nI 12 < x 2) ↔ 12 < (x 2).toInt := by rw [Int32.lt_iff_toInt_lt, u12]
    have hr : ax_rng (x 2) 6 = decide (0 ≤ (x 2).toInt ∧ (x 2).toInt ≤ 5) := by rw [rl_rng6, rl_in3, rl_l0, v5]
    have h2 : ax_in3 (x 2).toInt64 0 5 = decide (0 ≤ (x 2).toInt ∧ (x 2).toInt ≤ 5) := by rw [rl_in3, rl_l0, v5]
    have h3 : ax_in3 (x 2).toInt64 10 12 = decide (10 ≤ (x 2).toInt ∧ (x 2).toInt ≤ 12) := by rw [rl_in3, v10, v12]
    unfold an_taken ax_tknv
    rw [hj1, Bool.true_and, h2, h3, nI_clamp (by omega), hr, z1, (rl_shelf r7 (j := j) (by omega)).1]
    show _ = if _ then _ else if I 670 j < 0 then _ else if I 670 j = x 2 then (if _ then I 671 j else _) else _
    by_cases ca : 0 ≤ (x 2).toInt ∧ (x 2).toInt ≤ 5
    · obtain ⟨m, hm, em⟩ : ∃ m, m ≤ 5 ∧ x 2 = nI m := ⟨(x 2).toInt.toNat, by omega, rl_ofInt (by omega) (by omega)⟩
      rw [if_pos (hA.mpr (by omega)), if_pos (decide_eq_true ca), decide_eq_true ca, Bool.true_or, if_neg (show ¬ true = false by decide), em, if_neg (nI_ge (a := m) (b := 10) (by omega) (by omega))]
      by_cases c0 : I 670 j < 0
      · rw [if_pos (decide_eq_true c0), if_pos c0]
      · rw [if_neg (by rw [decide_eq_true_eq]; exact c0), if_neg c0]
        rcases r7 j (by omega) with ⟨t1, t2, t3⟩ | ⟨g, t1, t2, t3, t4, t5⟩ | ⟨u, t1, t2, t3, t4, t5⟩
        · rw [t3] at c0; exact absurd (by decide) c0
        · rw [t2, t4]
        · rw [t2, t4, if_neg (fun z => rl_m1 (g := m) (by omega) z.symm), if_neg (fun z => by have := (nI_eq (by omega) (by omega)).mp z; omega)]
    · by_cases cb : 10 ≤ (x 2).toInt ∧ (x 2).toInt ≤ 12
      · obtain ⟨m, hm, em⟩ : ∃ m, m ≤ 2 ∧ x 2 = nI (10 + m) := ⟨(x 2).toInt.toNat - 10, by omega, rl_ofInt (by omega) (by omega)⟩
        rw [if_neg (fun z => by have := hA.mp z; omega), if_neg (fun z => by have := hB.mp z; omega), decide_eq_true cb, Bool.or_true, if_neg (show ¬ true = false by decide), em, if_pos (nI_le (a := 10) (b := 10 + m) (by omega) (by omega))]
        by_cases c0 : I 670 j < 0
        · rw [if_pos (decide_eq_true c0), if_pos c0]
        · rw [if_neg (by rw [decide_eq_true_eq]; exact c0), if_neg c0]
          have es : nI (10 + m) - nI 10 = nI m := Int32.toInt_inj.mp (by rw [pk_sub_toInt (by omega) (by omega), nI_toInt (by omega)]; omega)
          rw [es]
          rcases r7 j (by omega) with ⟨t1, t2, t3⟩ | ⟨g, t1, t2, t3, t4, t5⟩ | ⟨u, t1, t2, t3, t4, t5⟩
          · rw [t3] at c0; exact absurd (by decide) c0
          · rw [t3, t4, if_neg (fun z => rl_m1 (g := m) (by omega) z.symm), if_neg (fun z => by have := (nI_eq (by omega) (by omega)).mp z; omega)]
          · rw [t3, t4, t5]
            by_cases e : u = m
            · subst e; rw [if_pos rfl, if_pos rfl]
            · rw [if_neg (fun z => e ((nI_eq (by omega) (by omega)).mp z)), if_neg (fun z => by have := (nI_eq (by omega) (by omega)).mp z; omega)]
      · have e1 : (decide (0 ≤ (x 2).toInt ∧ (x 2).toInt ≤ 5) || decide (10 ≤ (x 2).toInt ∧ (x 2).toInt ≤ 12)) = false := by rw [decide_eq_false ca, decide_eq_false cb]; rfl
        rw [e1, if_pos (show false = false from rfl), decide_eq_false ca]
        by_cases cc : x 2 < nI 10
        · rw [if_pos cc, if_neg (show ¬ false = true by decide)]
        · rw [if_neg cc, if_pos (hB.mpr (by have := mt hA.mpr cc; omega)), if_neg (show ¬ false = true by decide)]
theorem rl_ad3 {j i : Nat} {L : ax_L} : ∀ n q z, ax_ad3 0 j i n L q z = if q = 621 ∧ z < n then L (632 + 2 * j) z + L (632 + 2 * i) z else L q z := by
  intro n
  induction n with
  | zero => intro q z; rw [if_neg (by omega)]; rfl
  | succ n ih =>
    intro q z
    have e1 : ax_ad3 0 j i n L (0 + (632 + 2 * j)) n = L (632 + 2 * j) n := by rw [ih, if_neg (by omega), Nat.zero_add]
    have e2 : ax_ad3 0 j i n L (0 + (632 + 2 * i)) n = L (632 + 2 * i) n := by rw [ih, if_neg (by omega), Nat.zero_add]
    have e : ax_ad3 0 j i (n + 1) L = ax_u (ax_ad3 0 j i n L) 621 n ((ax_ad3 0 j i n L) (0 + (632 + 2 * j)) n + (ax_ad3 0 j i n L) (0 + (632 + 2 * i)) n) := by
      show ax_u (ax_ad3 0 j i n L) (0 + 621) n _ = _
      rfl
    rw [e, e1, e2]
    by_cases hq : q = 621
    · subst hq
      by_cases hz : z = n
      · subst hz; rw [ax_u_at, if_pos ⟨rfl, by omega⟩]
      · rw [ax_u_nj hz, ih]
        by_cases hz2 : z < n
        · rw [if_pos ⟨rfl, hz2⟩, if_pos ⟨rfl, by omega⟩]
        · rw [if_neg (fun y => hz2 y.2), if_neg (fun y => hz2 (by omega))]
    · rw [ax_u_ne hq, ih, if_neg (fun y => hq y.1), if_neg (fun y => hq y.1)]
theorem rl_riw (L : ax_L) : ax_riw L 0 = (ax_big (L 621 0) && ax_big (L 621 1) && ax_big (L 621 2)) := by
  have e : ∀ v, ax_iw v 1000000000 = ax_big v := fun v => rfl
  unfold ax_riw
  rw [e, e, e]
  show (if ax_big (L 621 0) = true then (if ax_big (L 621 1) = true then (if ax_big (L 621 2) = true then true else false) else false) else false) = _
  cases ax_big (L 621 0) <;> cases ax_big (L 621 1) <;> cases ax_big (L 621 2) <;> rfl
/-- three numbers come to a shelf that holds an element, in both -/
theorem rl_Rel.down {G : ax_G} {I : ax_I} {L M N : ax_L} {j g : Nat} {a b c : Int64} (h : rl_Rel G I L) (hj : j < 4) (hg : g < 6) (t2 : I (631 + 2 * j) 0 = nI g) (t3 : I (631 + 2 * j) 2 = -1) (t4 : I 670 j = nI g)
    (m1 : ∀ q, 623 ≤ q → q < 639 → M q = L q) (m2 : M 669 = L 669) (m3 : M 672 = L 672) (m4 : M 621 0 = a ∧ M 621 1 = b ∧ M 621 2 = c)
    (n1 : ∀ q, 623 ≤ q → q < 639 → N q = ax_lgL M 0 (632 + 2 * j) q) (n2 : N 669 = ax_lgL M 0 (632 + 2 * j) 669) (n3 : N 672 = ax_lgL M 0 (632 + 2 * j) 672) :
    ax_lgv M 0 = an_down a b c ∧ rl_Rel G (ax_lgI I M 0 (631 + 2 * j)) (ne_down 672 j a b c N) := by
  obtain ⟨ma, mb, mc⟩ := m4
  unfold ax_lgv an_down ax_lgI ne_down
  have hr : ax_riw M 0 = (ax_big a && ax_big b && ax_big c) := by rw [rl_riw, ma, mb, mc]
  rw [hr]
  refine ⟨rfl, ?_⟩
  by_cases hc : (ax_big a && ax_big b && ax_big c) = true
  · rw [if_pos hc, if_pos hc]
    have hL : ∀ q z, ax_lgL M 0 (632 + 2 * j) q z = if q = 632 + 2 * j ∧ z < 3 then M 621 z else M q z := fun q z => by
      unfold ax_lgL
      rw [hr, if_pos hc]
      exact rl_cp3 q z
    have g1 : ∀ q, q ≠ 631 + 2 * j → ax_u (ax_u (ax_u I (631 + 2 * j) 0 (I (631 + 2 * j) 0)) (631 + 2 * j) 2 (-1)) (631 + 2 * j) 3 (nI 0) q = I q := fun q hq => by rw [ax_u_ne hq, ax_u_ne hq, ax_u_ne hq]
    have g2 : ax_u (ax_u (ax_u I (631 + 2 * j) 0 (I (631 + 2 * j) 0)) (631 + 2 * j) 2 (-1)) (631 + 2 * j) 3 (nI 0) (631 + 2 * j) 0 = nI g := by rw [ax_u_nj (by omega), ax_u_nj (by omega), ax_u_at]; exact t2
    have g3 : ax_u (ax_u (ax_u I (631 + 2 * j) 0 (I (631 + 2 * j) 0)) (631 + 2 * j) 2 (-1)) (631 + 2 * j) 3 (nI 0) (631 + 2 * j) 2 = -1 := by rw [ax_u_nj (by omega), ax_u_at]
    generalize ax_u (ax_u (ax_u I (631 + 2 * j) 0 (I (631 + 2 * j) 0)) (631 + 2 * j) 2 (-1)) (631 + 2 * j) 3 (nI 0) = J at *
    have k1 : ∀ q, q ≠ 672 → ax_u (ax_u (ax_u N 672 (3 * j) a) 672 (3 * j + 1) b) 672 (3 * j + 2) c q = N q := fun q hq => by rw [ax_u_ne hq, ax_u_ne hq, ax_u_ne hq]
    have k2 : ∀ z, (z < 3 * j ∨ 3 * j + 3 ≤ z) → ax_u (ax_u (ax_u N 672 (3 * j) a) 672 (3 * j + 1) b) 672 (3 * j + 2) c 672 z = L 672 z := fun z hz => by
      rw [ax_u_nj (by omega), ax_u_nj (by omega), ax_u_nj (by omega), n3, hL, if_neg (by omega), m3]
    have k3 : ∀ y, y < 3 → ax_u (ax_u (ax_u N 672 (3 * j) a) 672 (3 * j + 1) b) 672 (3 * j + 2) c 672 (3 * j + y) = M 621 y := fun y hy => by
      match y, hy with
      | 0, _ => rw [ax_u_nj (by omega), ax_u_nj (by omega), Nat.add_zero, ax_u_at, ma]
      | 1, _ => rw [ax_u_nj (by omega), ax_u_at, mb]
      | 2, _ => rw [ax_u_at, mc]
    generalize ax_u (ax_u (ax_u N 672 (3 * j) a) 672 (3 * j + 1) b) 672 (3 * j + 2) c = O at *
    obtain ⟨r1, r2, r3, r4, r5, r6, r7⟩ := id h
    refine h.host (fun q hq => g1 q (by omega)) (fun i hi => ?_) (fun i hi => ?_)
    · rw [g1 (623 + 2 * i) (by omega), g1 667 (by omega), g1 668 (by omega)]
      obtain ⟨s1, s2, s3, s4⟩ := r6 i hi
      refine ⟨s1, s2, s3, fun y hy => ?_⟩
      rw [k1 _ (by omega), n1 _ (by omega) (by omega), hL, if_neg (by omega), m1 _ (by omega) (by omega), k1 _ (by omega), n2, hL, if_neg (by omega), m2]
      exact s4 y hy
    · rw [g1 670 (by omega), g1 671 (by omega)]
      by_cases e : i = j
      · subst e
        refine Or.inr (Or.inl ⟨g, hg, g2, g3, t4, fun y hy => ?_⟩)
        rw [k1 _ (by omega), n1 _ (by omega) (by omega), hL, if_pos ⟨rfl, hy⟩, k3 y hy]
      · rw [g1 (631 + 2 * i) (by omega)]
        rcases r7 i hi with t | ⟨g2, t1, t2, t3, t4, t5⟩ | t
        · exact Or.inl t
        · refine Or.inr (Or.inl ⟨g2, t1, t2, t3, t4, fun y hy => ?_⟩)
          rw [k1 _ (by omega), n1 _ (by omega) (by omega), hL, if_neg (by omega), m1 _ (by omega) (by omega), k2 _ (by omega)]
          exact t5 y hy
        · exact Or.inr (Or.inr t)
  · rw [if_neg hc, if_neg hc]
    have hL : ax_lgL M 0 (632 + 2 * j) = M := by unfold ax_lgL; rw [hr, if_neg hc]
    rw [hL] at n1 n2 n3
    exact h.keepL (fun q z1 z2 => (n1 q z1 z2).trans (m1 q z1 z2)) (n2.trans m2) (n3.trans m3)
set_option maxRecDepth 20000 in
theorem rl_31 (l : Launch) (D : va_G) (T : Nat → ClassId) (o : Nat) : law_P31 l D T o 1000 rl_Rel 0 639 := by
  intro x G I L h
  obtain ⟨r1, r2, r3, r4, r5, r6, r7⟩ := id h
  by_cases hb : ax_rng (x 1) 4 = true ∧ ax_rng (x 2) 4 = true
  case neg =>
    refine ay_PI.mk (k_X10_add_bad l D T o 1000 G I L 0 (x 1) (x 2) r1.1 (rl_ff hb) (by omega)) (k_X11_add l D T o 1000 G I L 639 (x 1) (x 2) r1.2.1 (by omega)) ?_ ?_
    · unfold an_add
      rw [← rl_rng4, ← rl_rng4, if_pos]
      rcases rl_ff hb with e | e <;> rw [e] <;> simp
    · unfold ne_add
      rw [← rl_rng4, ← rl_rng4, if_neg]
      · exact h
      · intro z
        have z1 := z.1
        rw [Bool.and_eq_true] at z1
        exact hb z1
  case pos =>
    obtain ⟨h1, h2⟩ := hb
    rw [rl_rng4] at h1 h2
    obtain ⟨j, hj, ej⟩ := ax_in3_nat (h := 3) (by omega) h1
    obtain ⟨i, hi, ei⟩ := ax_in3_nat (h := 3) (by omega) h2
    rw [ej] at h1 ⊢
    rw [ei] at h2 ⊢
    have K := k_X10_add l D T o 1000 G I L 0 j i r1.1 (by omega) (by omega) (by omega)
    have z1 : 0 + (631 + 2 * j) = 631 + 2 * j := by omega
    have z2 : 0 + (631 + 2 * i) = 631 + 2 * i := by omega
    have z3 : 0 + (632 + 2 * j) = 632 + 2 * j := by omega
    obtain ⟨s1, s2⟩ := rl_shelf r7 (j := j) (by omega)
    obtain ⟨s3, s4⟩ := rl_shelf r7 (j := i) (by omega)
    unfold ax_addv ax_addI ax_addL at K
    rw [z1, z2, z3, s1, s3] at K
    have han : ∀ M : ax_L, an_add (I (639 + 31)) (M (639 + 33)) (nI j) (nI i) = if I 670 j < 0 ∨ I 670 i < 0 then -11 else if nI 10 ≤ I 670 j ∨ ¬ I 670 j = I 670 i then -13 else an_down (M 672 (3 * j) + M 672 (3 * i)) (M 672 (3 * j + 1) + M 672 (3 * i + 1)) (M 672 (3 * j + 2) + M 672 (3 * i + 2)) := fun M => by
      unfold an_add
      rw [nI_clamp (by omega), nI_clamp (by omega), h1, h2, if_neg (show ¬ (true && true) = false by decide)]
    have hne : ∀ M : ax_L, ne_add (639 + 33) (I (639 + 31)) (nI j) (nI i) M = if ¬ I 670 j < 0 ∧ ¬ I 670 i < 0 ∧ ¬ nI 10 ≤ I 670 j ∧ I 670 j = I 670 i then ne_down 672 j (M 672 (3 * j) + M 672 (3 * i)) (M 672 (3 * j + 1) + M 672 (3 * i + 1)) (M 672 (3 * j + 2) + M 672 (3 * i + 2)) M else M := fun M => by
      unfold ne_add
      rw [nI_clamp (by omega), nI_clamp (by omega), h1, h2]
      show (if true = true ∧ ¬ I 670 j < 0 ∧ ¬ I 670 i < 0 ∧ ¬ nI 10 ≤ I 670 j ∧ I 670 j = I 670 i then _ else _) = _
      by_cases c : ¬ I 670 j < 0 ∧ ¬ I 670 i < 0 ∧ ¬ nI 10 ≤ I 670 j ∧ I 670 j = I 670 i
      · rw [if_pos ⟨rfl, c⟩, if_pos c]
      · rw [if_neg (fun z => c z.2), if_neg c]
    by_cases c1 : I 670 j < 0
    · rw [if_pos (decide_eq_true c1), if_pos (decide_eq_true c1), if_pos (decide_eq_true c1)] at K
      exact ay_PI.mk K (k_X11_add l D T o 1000 G I L 639 (nI j) (nI i) r1.2.1 (by omega)) (by rw [han, if_pos (Or.inl c1)]) (by rw [hne, if_neg (fun z => z.1 c1)]; exact h)
    · have nd1 : ¬ decide (I 670 j < 0) = true := by rw [decide_eq_true_eq]; exact c1
      rw [if_neg nd1, if_neg nd1, if_neg nd1] at K
      by_cases c2 : I 670 i < 0
      · rw [if_pos (decide_eq_true c2), if_pos (decide_eq_true c2), if_pos (decide_eq_true c2)] at K
        exact ay_PI.mk K (k_X11_add l D T o 1000 G I L 639 (nI j) (nI i) r1.2.1 (by omega)) (by rw [han, if_pos (Or.inr c2)]) (by rw [hne, if_neg (fun z => z.2.1 c2)]; exact h)
      · have nd2 : ¬ decide (I 670 i < 0) = true := by rw [decide_eq_true_eq]; exact c2
        rw [if_neg nd2, if_neg nd2, if_neg nd2] at K
        by_cases c3 : I (631 + 2 * j) 0 = -1
        · rw [if_pos c3, if_pos c3, if_pos c3] at K
          have c4 := (s2 c1).mp c3
          exact ay_PI.mk K (k_X11_add l D T o 1000 G I L 639 (nI j) (nI i) r1.2.1 (by omega)) (by rw [han, if_neg (fun z => z.elim c1 c2), if_pos (Or.inl c4)]) (by rw [hne, if_neg (fun z => z.2.2.1 c4)]; exact h)
        · rw [if_neg c3, if_neg c3, if_neg c3] at K
          have c4 : ¬ nI 10 ≤ I 670 j := fun z => c3 ((s2 c1).mpr z)
          obtain ⟨g, t1, t2, t3, t4, t5⟩ : ∃ g, g < 6 ∧ I (631 + 2 * j) 0 = nI g ∧ I (631 + 2 * j) 2 = -1 ∧ I 670 j = nI g ∧ ∀ k, k < 3 → L (632 + 2 * j) k = L 672 (3 * j + k) := by
            rcases r7 j (by omega) with ⟨t1, t2, t3⟩ | t | ⟨u, t1, t2, t3, t4, t5⟩
            · rw [t3] at c1; exact absurd (by decide) c1
            · exact t
            · exact absurd t2 c3
          have eqs : I (631 + 2 * j) 0 = I (631 + 2 * i) 0 ↔ I 670 j = I 670 i := by
            rcases r7 i (by omega) with ⟨w1, w2, w3⟩ | ⟨g2, w1, w2, w3, w4, w5⟩ | ⟨u, w1, w2, w3, w4, w5⟩
            · rw [w3] at c2; exact absurd (by decide) c2
            · rw [t2, t4, w2, w4]
            · rw [t2, t4, w2, w4]
              exact ⟨fun z => absurd z (rl_m1 (by omega)), fun z => by have := (nI_eq (by omega) (by omega)).mp z; omega⟩
          by_cases c5 : I (631 + 2 * j) 0 = I (631 + 2 * i) 0
          · rw [if_pos c5, if_pos c5, if_pos c5] at K
            have c6 := eqs.mp c5
            obtain ⟨g2, w1, w2, w3, w4, w5⟩ : ∃ g, g < 6 ∧ I (631 + 2 * i) 0 = nI g ∧ I (631 + 2 * i) 2 = -1 ∧ I 670 i = nI g ∧ ∀ k, k < 3 → L (632 + 2 * i) k = L 672 (3 * i + k) := by
              rcases r7 i (by omega) with ⟨w1, w2, w3⟩ | w | ⟨u, w1, w2, w3, w4, w5⟩
              · rw [w3] at c2; exact absurd (by decide) c2
              · exact w
              · exact absurd (c5.trans w2) c3
            have sm : ∀ y, y < 3 → ax_ad3 0 j i 3 L 621 y = L 672 (3 * j + y) + L 672 (3 * i + y) := fun y hy => by rw [rl_ad3, if_pos ⟨rfl, hy⟩, t5 y hy, w5 y hy]
            have nx : ∀ q, q ≠ 621 → ax_ad3 0 j i 3 L q = L q := fun q hq => by funext y; rw [rl_ad3, if_neg (fun z => hq z.1)]
            have lg : ∀ q, q ≠ 632 + 2 * j → ax_lgL (ax_ad3 0 j i 3 L) 0 (632 + 2 * j) q = ax_ad3 0 j i 3 L q := fun q hq => by
              unfold ax_lgL; split
              · exact ax_cp_ne hq
              · rfl
            have F := h.down (M := ax_ad3 0 j i 3 L) (N := ax_lgL (ax_ad3 0 j i 3 L) 0 (632 + 2 * j)) (a := L 672 (3 * j) + L 672 (3 * i)) (b := L 672 (3 * j + 1) + L 672 (3 * i + 1)) (c := L 672 (3 * j + 2) + L 672 (3 * i + 2)) (by omega) t1 t2 t3 t4 (fun q a b => nx q (by omega)) (nx _ (by omega)) (nx _ (by omega)) ⟨sm 0 (by omega), sm 1 (by omega), sm 2 (by omega)⟩ (fun q a b => rfl) rfl rfl
            have e672 : ax_lgL (ax_ad3 0 j i 3 L) 0 (632 + 2 * j) 672 = L 672 := (lg 672 (by omega)).trans (nx 672 (by omega))
            have jI : ∀ q, q ≠ 631 + 2 * j → ax_lgI I (ax_ad3 0 j i 3 L) 0 (631 + 2 * j) q = I q := fun q hq => by
              unfold ax_lgI; split
              · rw [ax_u_ne hq, ax_u_ne hq, ax_u_ne hq]
              · rfl
            have R := k_X11_add l D T o 1000 G (ax_lgI I (ax_ad3 0 j i 3 L) 0 (631 + 2 * j)) (ax_lgL (ax_ad3 0 j i 3 L) 0 (632 + 2 * j)) 639 (nI j) (nI i) r1.2.1 (by omega)
            rw [jI (639 + 31) (by omega), han, hne, if_neg (fun z => z.elim c1 c2), if_neg (fun z => z.elim c4 (fun y => y c6)), if_pos ⟨c1, c2, c4, c6⟩, e672] at R
            exact ay_PI.mk K R F.1 F.2
          · rw [if_neg c5, if_neg c5, if_neg c5] at K
            have c6 : ¬ I 670 j = I 670 i := fun z => c5 (eqs.mpr z)
            exact ay_PI.mk K (k_X11_add l D T o 1000 G I L 639 (nI j) (nI i) r1.2.1 (by omega)) (by rw [han, if_neg (fun z => z.elim c1 c2), if_pos (Or.inr c6)]) (by rw [hne, if_neg (fun z => c6 z.2.2.2)]; exact h)
