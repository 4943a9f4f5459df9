/-! ===== pairs without mathematics: relation, map, entry, at ===== -/
theorem rl_Rel.chg2 {c k : Nat} {G : ax_G} {I I1 J : ax_I} {L M : ax_L} (h : rl_Rel G I L) (hc : c < 20) (hk : k ≤ 20) (h0 : ∀ i, i < k → rl_St (31 + 14 * ((c + 20 - k + i) % 20)) I (fun z => I 642 (353 * i + z)))
    (e1 : ∀ q, q = 0 ∨ 15 ≤ q → I1 q = ax_rem 0 c k I q) (e2 : ∀ q, q ≠ 640 → J q = ax_ch 639 k I1 q) (hS : rl_St 1 J (J 640))
    (k1 : ∀ q, 623 ≤ q → q < 639 → M q = L q) (k2 : M 669 = L 669) (k3 : M 672 = L 672) : rl_Rel G J M := by
  have f1 : ∀ q, 311 ≤ q → I1 q = I q := fun q hq => (e1 q (by omega)).trans (ax_rem_ne hc (by omega))
  have f2 : ∀ q, q ≠ 639 → q ≠ 640 → q ≠ 642 → J q = I1 q := fun q z1 z2 z3 => (e2 q z2).trans (ax_ch_ne z1 z3)
  have f3 : ∀ q, 311 ≤ q → q ≠ 639 → q ≠ 640 → q ≠ 642 → J q = I q := fun q z0 z1 z2 z3 => (f2 q z1 z2 z3).trans (f1 q z0)
  refine h.chg (X := I1) hc hk h0 hS (fun q z1 z2 => (f2 q (by omega) (by omega) (by omega)).trans (e1 q (by omega))) ?_ ?_ ?_ (f1 640 (by omega)) (f1 642 (by omega)) ?_ ?_ (f3 641 (by omega) (by omega) (by omega) (by omega)) (f3 657 (by omega) (by omega) (by omega) (by omega)) (fun q z1 z2 => f3 q (by omega) (by omega) (by omega) (by omega)) k1 k2 k3
  · rw [f2 0 (by omega) (by omega) (by omega), e1 0 (by omega)]; exact ax_rem_ne hc (by omega)
  · rw [e2 639 (by omega)]
  · rw [e2 642 (by omega)]
  · rw [e2 639 (by omega), ax_ch_oj (by omega), f1 639 (by omega)]
  · rw [e2 639 (by omega), ax_ch_oj (by omega), f1 639 (by omega)]
theorem rl_gngc {b : Nat} {I : ax_I} {S : Nat → Int32} (h : rl_St b I S) : ∃ gn gc : Nat → Nat, (∀ g, g < 6 → I (b + 1) g = nI (gn g) ∧ gn g ≤ 3) ∧ (∀ g, g < 6 → I (b + 2) g = nI (gc g) ∧ gc g ≤ 4) ∧ (∀ g, g < 6 → S (14 * g) = nI (gn g) ∧ gn g ≤ 3) ∧ (∀ g, g < 6 → S (14 * g + 1) = nI (gc g) ∧ gc g ≤ 4) := by
  have h1 : ∀ g, g < 6 → S (14 * g) = nI (S (14 * g)).toNatClampNeg ∧ (S (14 * g)).toNatClampNeg ≤ 3 := by
    intro g hg
    obtain ⟨n, c, z1, z2, z3, z4, -⟩ := h.2.1 g hg
    rw [z3, nI_clamp (by omega)]; exact ⟨rfl, z1⟩
  have h2 : ∀ g, g < 6 → S (14 * g + 1) = nI (S (14 * g + 1)).toNatClampNeg ∧ (S (14 * g + 1)).toNatClampNeg ≤ 4 := by
    intro g hg
    obtain ⟨n, c, z1, z2, z3, z4, -⟩ := h.2.1 g hg
    rw [z4, nI_clamp (by omega)]; exact ⟨rfl, z2⟩
  exact ⟨fun g => (S (14 * g)).toNatClampNeg, fun g => (S (14 * g + 1)).toNatClampNeg, fun g hg => ⟨(h.1.1 g hg).1.trans (h1 g hg).1, (h1 g hg).2⟩, fun g hg => ⟨(h.1.1 g hg).2.trans (h2 g hg).1, (h2 g hg).2⟩, h1, h2⟩
theorem rl_ff {A B : Bool} (h : ¬ (A = true ∧ B = true)) : A = false ∨ B = false := by cases A <;> cases B <;> simp_all
theorem rl_f4 {A a b c : Bool} (h : A = false ∨ (a && b && c) = false) : (A && a && b && c) = false := by cases A <;> cases a <;> cases b <;> cases c <;> simp_all
theorem rl_t3 {a b c : Bool} (h : (a && b && c) = true) : a = true ∧ b = true ∧ c = true := by cases a <;> cases b <;> cases c <;> simp_all
theorem rl_i64 (x : Int32) : x.toInt64.toInt32 = x := by simp
set_option maxRecDepth 20000 in
theorem rl_1 (l : Launch) (D : va_G) (T : Nat → ClassId) (o : Nat) : law_P1 l D T o 1000 rl_Rel 0 639 := by
  intro x G I L h
  obtain ⟨r1, r2, ⟨c, k, a1, a2, a3, a4, a5, a6⟩, r4, r5, r6, r7⟩ := id h
  by_cases hb : ax_rng (x 1) 6 = true ∧ (ax_iw (x 2).toInt64 (nI 9).toInt64 && ax_iw (x 3).toInt64 (nI 9).toInt64 && ax_iw (x 4).toInt64 (nI 9).toInt64) = true
  case neg =>
    have hb1 := rl_ff hb
    exact ay_PI.mk (k_X10_relation_bad l D T o 1000 G I L 0 (x 1) (x 2) (x 3) (x 4) r1.1 hb1 (by omega)) (k_X11_relation_bad l D T o 1000 G I L 639 (x 1) (x 2) (x 3) (x 4) r1.2.1 (by omega) (by rw [← rl_rng6]; exact rl_f4 hb1)) rfl h
  case pos =>
    obtain ⟨hb1, he⟩ := hb
    obtain ⟨e1, e2, e3⟩ := rl_t3 he
    rw [rl_rng6] at hb1
    obtain ⟨g, hg, eg⟩ := ax_in3_nat (h := 5) (by omega) hb1
    rw [eg]
    obtain ⟨gn, gc, hgn, hgc, hsn, hsc⟩ := rl_gngc r2
    by_cases h4 : gc g < 4
    case neg =>
      exact ay_PI.mk (k_X10_relation_full l D T o 1000 G I L 0 g gn gc (x 2) (x 3) (x 4) r1.1 hgn hgc (by omega) he (by omega) (by omega)) (k_X11_relation_full l D T o 1000 G I L 639 g (x 2) (x 3) (x 4) r1.2.1 (by rw [show I (639 + 1) = I 640 from rfl, (hsc g (by omega)).1]; exact congrArg nI (by have := (hsc g (by omega)).2; omega)) (by omega) e1 e2 e3 (by omega)) rfl h
    case pos =>
      have K := k_X10_relation l D T o 1000 G I L 0 c k g (x 2) (x 3) (x 4) gn gc r1.1 a3 a4 a1 a2 hgn hgc (by omega) he h4 (by omega)
      have tk : ∀ n q z, ax_tkr 1 ((g * 4 + gc g) * 3) 621 (ax_tl 621 (gn g) (x 2) (x 3) (x 4) L) n (ax_rem 0 c k I) q z = if q = 4 ∧ (g * 4 + gc g) * 3 ≤ z ∧ z < (g * 4 + gc g) * 3 + n then (ax_tl 621 (gn g) (x 2) (x 3) (x 4) L 621 (z - (g * 4 + gc g) * 3)).toInt32 else ax_rem 0 c k I q z := by
        intro n
        induction n with
        | zero => intro q z; rw [if_neg (by omega)]; rfl
        | succ n ih =>
          intro q z
          show ax_u (ax_tkr 1 ((g * 4 + gc g) * 3) 621 (ax_tl 621 (gn g) (x 2) (x 3) (x 4) L) n (ax_rem 0 c k I)) 4 ((g * 4 + gc g) * 3 + n) (ax_tl 621 (gn g) (x 2) (x 3) (x 4) L 621 n).toInt32 q z = _
          by_cases hq : q = 4
          · subst hq
            by_cases hz : z = (g * 4 + gc g) * 3 + n
            · subst hz; rw [ax_u_at, if_pos (by omega), Nat.add_sub_cancel_left]
            · rw [ax_u_nj hz, ih]
              by_cases hz2 : (g * 4 + gc g) * 3 ≤ z ∧ z < (g * 4 + gc g) * 3 + n
              · rw [if_pos ⟨rfl, hz2⟩, if_pos (by omega)]
              · rw [if_neg (fun y => hz2 y.2), if_neg (by omega)]
          · rw [ax_u_ne hq, ih, if_neg (fun y => hq y.1), if_neg (fun y => hq y.1)]
      obtain ⟨I1, hI1⟩ : ∃ I1, I1 = ax_relI I L 0 c k g (x 2) (x 3) (x 4) gn gc := ⟨_, rfl⟩
      rw [← hI1] at K
      have fr : ∀ q, (q < 29 ∨ 311 ≤ q) → ax_rem 0 c k I q = I q := fun q hq => ax_rem_ne a1 (by omega)
      have f0 : ∀ q z, q ≠ 3 → I1 q z = if q = 4 ∧ (g * 4 + gc g) * 3 ≤ z ∧ z < (g * 4 + gc g) * 3 + 3 then (ax_tl 621 (gn g) (x 2) (x 3) (x 4) L 621 (z - (g * 4 + gc g) * 3)).toInt32 else ax_rem 0 c k I q z := fun q z hq => by
        rw [hI1]
        show ax_u (ax_tkr 1 ((g * 4 + gc g) * 3) 621 (ax_tl 621 (gn g) (x 2) (x 3) (x 4) L) 3 (ax_rem 0 c k I)) 3 g (nI (gc g + 1)) q z = _
        rw [ax_u_ne hq]; exact tk 3 q z
      have f1 : ∀ q, q ≠ 3 → q ≠ 4 → I1 q = ax_rem 0 c k I q := fun q h1 h2 => by funext z; rw [f0 q z h1, if_neg (fun y => h2 y.1)]
      have f3 : I1 3 = ax_u I 3 g (nI (gc g + 1)) 3 := by
        funext z
        rw [hI1]
        show ax_u (ax_tkr 1 ((g * 4 + gc g) * 3) 621 (ax_tl 621 (gn g) (x 2) (x 3) (x 4) L) 3 (ax_rem 0 c k I)) 3 g (nI (gc g + 1)) 3 z = _
        rw [ax_u_eq, ax_u_eq]
        show (if _ then _ else _) = if _ then _ else _
        rw [show ax_tkr 1 ((g * 4 + gc g) * 3) 621 (ax_tl 621 (gn g) (x 2) (x 3) (x 4) L) 3 (ax_rem 0 c k I) 3 z = I 3 z from by rw [tk 3 3 z, if_neg (by omega), fr 3 (by omega)]]
      have Q := k_X11_relation l D T o 1000 G I1 (ax_tl (0 + 621) (gn g) (x 2) (x 3) (x 4) L) 639 k g (gc g) (x 2) (x 3) (x 4) r1.2.1 (by rw [f1 639 (by omega) (by omega), fr 639 (by omega)]; exact a5) a2 (by rw [f1 (639 + 1) (by omega) (by omega), fr _ (by omega)]; exact (hsc g (by omega)).1) h4 (by omega) e1 e2 e3 (by omega)
      refine ay_PI.mk K Q rfl ?_
      generalize hJ : ax_u (ax_u (ax_u (ax_u (ax_ch 639 k I1) (639 + 1) (14 * g + 2 + 3 * gc g) (x 2)) (639 + 1) (14 * g + 2 + 3 * gc g + 1) (x 3)) (639 + 1) (14 * g + 2 + 3 * gc g + 2) (x 4)) (639 + 1) (14 * g + 1) (nI (gc g + 1)) = J
      have g1 : ∀ q, q ≠ 640 → J q = ax_ch 639 k I1 q := fun q hq => by rw [← hJ, ax_u_ne hq, ax_u_ne hq, ax_u_ne hq, ax_u_ne hq]
      have g2 : ∀ z, z ≠ 14 * g + 2 + 3 * gc g → z ≠ 14 * g + 2 + 3 * gc g + 1 → z ≠ 14 * g + 2 + 3 * gc g + 2 → z ≠ 14 * g + 1 → J 640 z = I 640 z := fun z z1 z2 z3 z4 => by
        rw [← hJ]
        show ax_u (ax_u (ax_u (ax_u _ 640 _ _) 640 _ _) 640 _ _) 640 _ _ 640 z = _
        rw [ax_u_nj z4, ax_u_nj z3, ax_u_nj z2, ax_u_nj z1, ax_ch_ne (by omega) (by omega), f1 640 (by omega) (by omega), fr 640 (by omega)]
      have g3 : J 640 (14 * g + 1) = nI (gc g + 1) := by
        rw [← hJ]
        show ax_u (ax_u (ax_u (ax_u _ 640 _ _) 640 _ _) 640 _ _) 640 _ _ 640 _ = _
        rw [ax_u_at]
      have g4 : J 640 (14 * g + 2 + 3 * gc g) = x 2 ∧ J 640 (14 * g + 2 + 3 * gc g + 1) = x 3 ∧ J 640 (14 * g + 2 + 3 * gc g + 2) = x 4 := by
        rw [← hJ]
        show ax_u (ax_u (ax_u (ax_u _ 640 _ _) 640 _ _) 640 _ _) 640 _ _ 640 _ = _ ∧ ax_u (ax_u (ax_u (ax_u _ 640 _ _) 640 _ _) 640 _ _) 640 _ _ 640 _ = _ ∧ ax_u (ax_u (ax_u (ax_u _ 640 _ _) 640 _ _) 640 _ _) 640 _ _ 640 _ = _
        refine ⟨?_, ?_, ?_⟩
        · rw [ax_u_nj (by omega), ax_u_nj (by omega), ax_u_nj (by omega), ax_u_at]
        · rw [ax_u_nj (by omega), ax_u_nj (by omega), ax_u_at]
        · rw [ax_u_nj (by omega), ax_u_at]
      have g5 : ∀ q, q < 15 → J q = I1 q := fun q hq => (g1 q (by omega)).trans (ax_ch_ne (by omega) (by omega))
      have g6 : ∀ q, q < 15 → q ≠ 3 → q ≠ 4 → J q = I q := fun q hq h3 h4 => (g5 q hq).trans ((f1 q h3 h4).trans (fr q (by omega)))
      obtain ⟨⟨p1, p2, p3, p4⟩, w1, w2, w3⟩ := r2
      have tl : ∀ j, j < 3 → (ax_tl 621 (gn g) (x 2) (x 3) (x 4) L 621 j).toInt32 = if j < gn g then J 640 (14 * g + 2 + 3 * gc g + j) else 0 := by
        intro j hj
        unfold ax_tl
        match j, hj with
        | 0, _ => rw [ax_u_nj (by omega), ax_u_nj (by omega), ax_u_at, Nat.add_zero, g4.1]; split <;> simp
        | 1, _ => rw [ax_u_nj (by omega), ax_u_at, g4.2.1]; split <;> simp
        | 2, _ => rw [ax_u_at, g4.2.2]; split <;> simp
      refine h.chg2 a1 a2 a6 (fun q hq => f1 q (by omega) (by omega)) g1 ⟨⟨fun g' hg' => ?_, fun g' r k' hg' hr hk' hq => ?_, p3.keep (g6 5 (by omega) (by omega) (by omega)) (g6 6 (by omega) (by omega) (by omega)) (g6 7 (by omega) (by omega) (by omega)) (fun z z1 z2 => g2 z (by omega) (by omega) (by omega) (by omega)), p4.keep (by rw [g6 1 (by omega) (by omega) (by omega)]) (fun q z1 z2 => g6 q (by omega) (by omega) (by omega)) (fun z z1 z2 => g2 z (by omega) (by omega) (by omega) (by omega))⟩, fun g' hg' => ?_, w2.keep (fun z z1 z2 => g2 z (by omega) (by omega) (by omega) (by omega)) (fun g' hg' => g2 _ (by omega) (by omega) (by omega) (by omega)), w3.keep (fun z z1 z2 => g2 z (by omega) (by omega) (by omega) (by omega))⟩ (fun q z1 z2 => ?_) ?_ ?_
      · show J 2 g' = _ ∧ J 3 g' = _
        rw [g6 2 (by omega) (by omega) (by omega), g5 3 (by omega), f3, g2 (14 * g') (by omega) (by omega) (by omega) (by omega)]
        by_cases e : g' = g
        · subst e; rw [ax_u_at, g3]; exact ⟨(p1 g' hg').1, rfl⟩
        · rw [ax_u_nj e, g2 _ (by omega) (by omega) (by omega) (by omega)]; exact p1 g' hg'
      · show J 4 _ = _
        rw [g5 4 (by omega), f0 4 _ (by omega)]
        by_cases e : g' = g
        · subst e
          rw [g3, nI_clamp (by omega)] at hq
          by_cases er : r = gc g'
          · subst er
            rw [if_pos (by omega), show 12 * g' + 3 * gc g' + k' - (g' * 4 + gc g') * 3 = k' by omega, tl k' hk', g2 (14 * g') (by omega) (by omega) (by omega) (by omega), (hsn g' hg').1, nI_clamp (by have := (hsn g' hg').2; omega)]
          · rw [if_neg (by omega), fr 4 (by omega), g2 _ (by omega) (by omega) (by omega) (by omega), g2 _ (by omega) (by omega) (by omega) (by omega)]
            exact p2 g' r k' hg' hr hk' (by rw [(hsc g' hg').1, nI_clamp (by omega)]; omega)
        · rw [g2 _ (by omega) (by omega) (by omega) (by omega)] at hq
          rw [if_neg (by omega), fr 4 (by omega), g2 _ (by omega) (by omega) (by omega) (by omega), g2 _ (by omega) (by omega) (by omega) (by omega)]
          exact p2 g' r k' hg' hr hk' hq
      · obtain ⟨n', c', z1, z2, z3, z4, z5⟩ := w1 g' hg'
        by_cases e : g' = g
        · subst e
          have ec : c' = gc g' := (nI_eq (by omega) (by omega)).mp (z4.symm.trans (hsc g' hg').1)
          subst ec
          refine ⟨n', gc g' + 1, z1, by omega, by rw [g2 _ (by omega) (by omega) (by omega) (by omega)]; exact z3, g3, fun r k' hr hk' => ?_⟩
          by_cases er : r = gc g'
          · subst er
            match k', hk' with
            | 0, _ => rw [Nat.add_zero, g4.1]; exact e1
            | 1, _ => rw [g4.2.1]; exact e2
            | 2, _ => rw [g4.2.2]; exact e3
          · rw [g2 _ (by omega) (by omega) (by omega) (by omega)]; exact z5 r k' (by omega) hk'
        · exact ⟨n', c', z1, z2, by rw [g2 _ (by omega) (by omega) (by omega) (by omega)]; exact z3, by rw [g2 _ (by omega) (by omega) (by omega) (by omega)]; exact z4, fun r k' hr hk' => by rw [g2 _ (by omega) (by omega) (by omega) (by omega)]; exact z5 r k' hr hk'⟩
      · unfold ax_tl; rw [ax_u_ne (by omega), ax_u_ne (by omega), ax_u_ne (by omega)]
      · unfold ax_tl; rw [ax_u_ne (by omega), ax_u_ne (by omega), ax_u_ne (by omega)]
      · unfold ax_tl; rw [ax_u_ne (by omega), ax_u_ne (by omega), ax_u_ne (by omega)]
/-! maps -/
theorem rl_isMap {b : Nat} {I : ax_I} {S : Nat → Int32} (h : rl_St b I S) (f : Int32) : (ax_in3 f.toInt64 0 7 && !decide (I (b + 4) f.toNatClampNeg = -1)) = (ax_in3 f.toInt64 0 7 && !decide (S (84 + 11 * f.toNatClampNeg) < 0)) := by
  cases hf : ax_in3 f.toInt64 0 7 with
  | false => rfl
  | true =>
    obtain ⟨j, hj, rfl⟩ := ax_in3_nat (h := 7) (by omega) hf
    rw [nI_clamp (by omega), (h.1.2.2.1 j (by omega)).1]
    rcases h.2.2.1 j (by omega) with h1 | ⟨p, r, x, y, h2, -⟩
    · rw [h1]; decide
    · rw [h2.2.2.2.2.2.1, decide_eq_false (rl_m1 (by have := h2.2.1; omega)), decide_eq_false (nI_pos (by have := h2.2.1; omega))]
theorem rl_mapAt {b : Nat} {I : ax_I} {S : Nat → Int32} (h : rl_St b I S) {f : Int32} (hf : (ax_in3 f.toInt64 0 7 && !decide (I (b + 4) f.toNatClampNeg = -1)) = true) : ∃ j p r x y, f = nI j ∧ ax_Mp S j p r x y ∧ I (b + 4) j = nI p ∧ I (b + 5) j = nI r ∧ (∀ i, i < 9 → I (b + 6) (9 * j + i) = S (84 + 11 * j + 2 + i)) ∧ ∀ i k, i < 3 → k < 3 → ax_in3 (S (84 + 11 * j + 2 + 3 * i + k)).toInt64 (-99) 99 = true ∧ (¬ (i < x ∧ k < y) → S (84 + 11 * j + 2 + 3 * i + k) = 0) := by
  rw [Bool.and_eq_true] at hf
  obtain ⟨j, hj, rfl⟩ := ax_in3_nat (h := 7) (by omega) hf.1
  have h1 := hf.2
  rw [nI_clamp (by omega)] at h1
  obtain ⟨q1, q2, q3⟩ := h.1.2.2.1 j (by omega)
  have hne : ¬ S (84 + 11 * j) = -1 := by
    intro z
    rw [q1, z] at h1
    exact absurd h1 (by decide)
  rcases h.2.2.1 j (by omega) with h3 | ⟨p, r, x, y, h2, h4⟩
  · exact absurd h3 hne
  · exact ⟨j, p, r, x, y, rfl, h2, q1.trans h2.2.2.2.2.2.1, (q3 hne).1.trans h2.2.2.2.2.2.2.1, (q3 hne).2, h4⟩
theorem rl_fl2 {a f : Nat} {v : Int32} {J : ax_I} : ∀ n z, ax_fl2 a f v n J a z = if f ≤ z ∧ z < f + n then v else J a z := by
  intro n
  induction n with
  | zero => intro z; rw [if_neg (by omega)]; rfl
  | succ n ih =>
    intro z
    show ax_u (ax_fl2 a f v n J) a (f + n) v a z = _
    by_cases hz : z = f + n
    · subst hz; rw [ax_u_at, if_pos (by omega)]
    · rw [ax_u_nj hz, ih]
      by_cases hz2 : f ≤ z ∧ z < f + n
      · rw [if_pos hz2, if_pos (by omega)]
      · rw [if_neg hz2, if_neg (by omega)]
theorem rl_mp {m f g h : Nat} {J : ax_I} : ∀ n q z, ax_mp m f g h n J q z = if q = m + 1 ∧ 84 + 11 * f ≤ z ∧ z < 84 + 11 * f + n then (if z = 84 + 11 * f then nI g else if z = 84 + 11 * f + 1 then nI h else nI 0) else J q z := by
  intro n
  induction n with
  | zero => intro q z; rw [if_neg (by omega)]; rfl
  | succ n ih =>
    intro q z
    show ax_u (ax_mp m f g h n J) (m + 1) (84 + 11 * f + n) (if n = 0 then nI g else if n = 1 then nI h else nI 0) q z = _
    by_cases hq : q = m + 1
    · subst hq
      by_cases hz : z = 84 + 11 * f + n
      · subst hz
        rw [ax_u_at, if_pos (show m + 1 = m + 1 ∧ 84 + 11 * f ≤ 84 + 11 * f + n ∧ 84 + 11 * f + n < 84 + 11 * f + (n + 1) from ⟨rfl, by omega, by omega⟩)]
        by_cases h0 : n = 0
        · subst h0; rw [if_pos rfl, if_pos (Nat.add_zero _)]
        · rw [if_neg h0, if_neg (show ¬ 84 + 11 * f + n = 84 + 11 * f by omega)]
          by_cases h1 : n = 1
          · subst h1; rw [if_pos rfl, if_pos rfl]
          · rw [if_neg h1, if_neg (show ¬ 84 + 11 * f + n = 84 + 11 * f + 1 by omega)]
      · rw [ax_u_nj hz, ih]
        by_cases hz2 : 84 + 11 * f ≤ z ∧ z < 84 + 11 * f + n
        · rw [if_pos (show m + 1 = m + 1 ∧ 84 + 11 * f ≤ z ∧ z < 84 + 11 * f + n from ⟨rfl, hz2⟩), if_pos (show m + 1 = m + 1 ∧ 84 + 11 * f ≤ z ∧ z < 84 + 11 * f + (n + 1) from ⟨rfl, by omega, by omega⟩)]
        · rw [if_neg (show ¬ (m + 1 = m + 1 ∧ 84 + 11 * f ≤ z ∧ z < 84 + 11 * f + n) from fun y => hz2 y.2), if_neg (show ¬ (m + 1 = m + 1 ∧ 84 + 11 * f ≤ z ∧ z < 84 + 11 * f + (n + 1)) from fun y => hz2 ⟨y.2.1, by omega⟩)]
    · rw [ax_u_ne hq, ih, if_neg (fun y => hq y.1), if_neg (fun y => hq y.1)]
theorem rl_f3 {A a b : Bool} (h : ¬ (A = true ∧ a = true ∧ b = true)) : (A = false ∨ a = false ∨ b = false) ∧ (A && a && b) = false := by cases A <;> cases a <;> cases b <;> simp_all
theorem rl_0in : ax_in3 (nI 0).toInt64 (-99) 99 = true := by decide
/-- a map is another one: what else holds is kept -/
theorem rl_St.map {I J : ax_I} {j : Nat} (h : rl_St 1 I (I 640)) (hj : j < 8) (e : ∀ q, q < 15 → q ≠ 5 → q ≠ 6 → q ≠ 7 → J q = I q) (e5 : ∀ f, f ≠ j → J 5 f = I 5 f) (e6 : ∀ f, f ≠ j → J 6 f = I 6 f) (e7 : ∀ f i, f ≠ j → i < 9 → J 7 (9 * f + i) = I 7 (9 * f + i)) (eS : ∀ z, (z < 84 + 11 * j ∨ 84 + 11 * j + 11 ≤ z) → J 640 z = I 640 z)
    (hn : ∃ p r x y, ax_Mp (J 640) j p r x y ∧ J 5 j = nI p ∧ J 6 j = nI r ∧ (∀ i, i < 9 → J 7 (9 * j + i) = J 640 (84 + 11 * j + 2 + i)) ∧ ∀ i k, i < 3 → k < 3 → ax_in3 (J 640 (84 + 11 * j + 2 + 3 * i + k)).toInt64 (-99) 99 = true ∧ (¬ (i < x ∧ k < y) → J 640 (84 + 11 * j + 2 + 3 * i + k) = 0)) : rl_St 1 J (J 640) := by
  obtain ⟨⟨p1, p2, p3, p4⟩, w1, w2, w3⟩ := h
  obtain ⟨p, r, x, y, n1, n2, n3, n4, n5⟩ := hn
  have s0 : ∀ z, z < 84 → J 640 z = I 640 z := fun z hz => eS z (by omega)
  have s1 : ∀ z, 172 ≤ z → z < 353 → J 640 z = I 640 z := fun z hz _ => eS z (by omega)
  refine ⟨⟨p1.keep (e 2 (by omega) (by omega) (by omega) (by omega)) (e 3 (by omega) (by omega) (by omega) (by omega)) s0, p2.keep (e 4 (by omega) (by omega) (by omega) (by omega)) s0, fun f hf => ?_, p4.keep (by rw [e 1 (by omega) (by omega) (by omega) (by omega)]) (fun q z1 z2 => e q (by omega) (by omega) (by omega) (by omega)) s1⟩, w1.keep s0, fun f hf => ?_, w3.keep s1⟩
  · show J 5 f = _ ∧ (_ → J 6 f = _) ∧ (_ → J 6 f = _ ∧ ∀ j, j < 9 → J 7 _ = _)
    by_cases ef : f = j
    · subst ef
      rw [n2, n3, n1.2.2.2.2.2.1, n1.2.2.2.2.2.2.1]
      exact ⟨rfl, fun z => absurd z (rl_m1 (by have := n1.2.1; omega)), fun _ => ⟨rfl, n4⟩⟩
    · rw [e5 f ef, e6 f ef, eS _ (by omega), eS (84 + 11 * f + 1) (by omega)]
      obtain ⟨q1, q2, q3⟩ := p3 f hf
      exact ⟨q1, q2, fun hm => ⟨(q3 hm).1, fun i hi => by rw [e7 f i ef hi, eS _ (by omega)]; exact (q3 hm).2 i hi⟩⟩
  · by_cases ef : f = j
    · subst ef; exact Or.inr ⟨p, r, x, y, n1, n5⟩
    · rcases w2 f hf with h1 | ⟨p', r', x', y', ⟨m1, m2, m3, m4, m5, m6, m7, m8, m9⟩, h2⟩
      · exact Or.inl (by rw [eS _ (by omega)]; exact h1)
      · refine Or.inr ⟨p', r', x', y', ⟨m1, m2, m3, m4, m5, by rw [eS _ (by omega)]; exact m6, by rw [eS _ (by omega)]; exact m7, by rw [s0 _ (by omega)]; exact m8, by rw [s0 _ (by omega)]; exact m9⟩, fun i k hi hk => ?_⟩
        rw [eS _ (by omega)]; exact h2 i k hi hk
set_option maxRecDepth 20000 in
theorem rl_10 (l : Launch) (D : va_G) (T : Nat → ClassId) (o : Nat) : law_P10 l D T o 1000 rl_Rel 0 639 := by
  intro x G I L h
  obtain ⟨r1, r2, ⟨c, k, a1, a2, a3, a4, a5, a6⟩, r4, r5, r6, r7⟩ := id h
  by_cases hb : ax_rng (x 1) 8 = true ∧ ax_rng (x 2) 6 = true ∧ ax_rng (x 3) 6 = true
  case neg =>
    have hb1 := rl_f3 hb
    exact ay_PI.mk (k_X10_map_bad l D T o 1000 G I L 0 (x 1) (x 2) (x 3) r1.1 hb1.1 (by omega)) (k_X11_map_bad l D T o 1000 G I L 639 (x 1) (x 2) (x 3) r1.2.1 (by omega) (by rw [← rl_rng6, ← rl_rng6, ← rl_rng8]; exact hb1.2)) rfl h
  case pos =>
    obtain ⟨h1, h2, h3⟩ := hb
    rw [rl_rng8] at h1
    rw [rl_rng6] at h2 h3
    obtain ⟨j, hj, ej⟩ := ax_in3_nat (h := 7) (by omega) h1
    obtain ⟨g, hg, eg⟩ := ax_in3_nat (h := 5) (by omega) h2
    obtain ⟨g', hg', eg'⟩ := ax_in3_nat (h := 5) (by omega) h3
    rw [ej, eg, eg']
    obtain ⟨gn, gc, hgn, hgc, hsn, hsc⟩ := rl_gngc r2
    have K := k_X10_map l D T o 1000 G I L 0 c k j g g' r1.1 a3 a4 a1 a2 (by omega) (by omega) (by omega) (by omega)
    generalize hI1 : ax_fl2 (0 + 1 + 6) (9 * j) (nI 0) 9 (ax_u (ax_u (ax_rem 0 c k I) (0 + 1 + 4) j (nI g)) (0 + 1 + 5) j (nI g')) = I1 at K
    have fr : ∀ q, (q < 29 ∨ 311 ≤ q) → ax_rem 0 c k I q = I q := fun q hq => ax_rem_ne a1 (by omega)
    have f1 : ∀ q, q ≠ 5 → q ≠ 6 → q ≠ 7 → I1 q = ax_rem 0 c k I q := fun q z1 z2 z3 => by rw [← hI1, ax_fl2_ne (by omega), ax_u_ne (by omega), ax_u_ne (by omega)]
    have f5 : I1 5 = ax_u I 5 j (nI g) 5 := by rw [← hI1, ax_fl2_ne (by omega), ax_u_ne (by omega)]; show ax_u _ 5 _ _ 5 = _; rw [ax_u_eq, ax_u_eq, fr 5 (by omega)]
    have f6 : I1 6 = ax_u I 6 j (nI g') 6 := by rw [← hI1, ax_fl2_ne (by omega)]; show ax_u _ 6 _ _ 6 = _; rw [ax_u_eq, ax_u_eq, ax_u_ne (by omega), fr 6 (by omega)]
    have f7 : ∀ z, I1 7 z = if 9 * j ≤ z ∧ z < 9 * j + 9 then nI 0 else I 7 z := fun z => by
      rw [← hI1]
      show ax_fl2 7 _ _ _ _ 7 z = _
      rw [rl_fl2, ax_u_ne (by omega), ax_u_ne (by omega), fr 7 (by omega)]
    have f8 : ∀ q, 311 ≤ q → I1 q = I q := fun q hq => (f1 q (by omega) (by omega) (by omega)).trans (fr q (by omega))
    refine ay_PI.mk K (k_X11_map l D T o 1000 G I1 L 639 k j g g' r1.2.1 (by rw [f8 639 (by omega)]; exact a5) a2 (by omega) (by omega) (by omega) (by omega)) rfl ?_
    generalize hJ : ax_mp 639 j g g' 11 (ax_ch 639 k I1) = J
    have g0 : ∀ q z, J q z = if q = 640 ∧ 84 + 11 * j ≤ z ∧ z < 84 + 11 * j + 11 then (if z = 84 + 11 * j then nI g else if z = 84 + 11 * j + 1 then nI g' else nI 0) else ax_ch 639 k I1 q z := fun q z => by rw [← hJ]; exact rl_mp 11 q z
    have g1 : ∀ q, q ≠ 640 → J q = ax_ch 639 k I1 q := fun q hq => by funext z; rw [g0, if_neg (fun y => hq y.1)]
    have g2 : ∀ z, (z < 84 + 11 * j ∨ 84 + 11 * j + 11 ≤ z) → J 640 z = I 640 z := fun z hz => by rw [g0, if_neg (by omega), ax_ch_ne (by omega) (by omega), f8 640 (by omega)]
    have g3 : J 640 (84 + 11 * j) = nI g := by rw [g0, if_pos (by omega), if_pos rfl]
    have g4 : J 640 (84 + 11 * j + 1) = nI g' := by rw [g0, if_pos (by omega), if_neg (by omega), if_pos rfl]
    have g5 : ∀ i, i < 9 → J 640 (84 + 11 * j + 2 + i) = nI 0 := fun i hi => by rw [g0, if_pos (by omega), if_neg (by omega), if_neg (by omega)]
    have g6 : ∀ q, q < 15 → J q = I1 q := fun q hq => (g1 q (by omega)).trans (ax_ch_ne (by omega) (by omega))
    refine h.chg2 a1 a2 a6 (fun q hq => f1 q (by omega) (by omega) (by omega)) g1 (r2.map (j := j) (by omega) (fun q z1 z2 z3 z4 => (g6 q z1).trans ((f1 q z2 z3 z4).trans (fr q (by omega)))) (fun f hf => by rw [g6 5 (by omega), f5, ax_u_nj hf]) (fun f hf => by rw [g6 6 (by omega), f6, ax_u_nj hf]) (fun f i hf hi => by rw [g6 7 (by omega), f7, if_neg (by omega)]) g2 ⟨g, g', gn g, gn g', ⟨by omega, by omega, by omega, (hsn g (by omega)).2, (hsn g' (by omega)).2, g3, g4, by rw [g2 _ (by omega)]; exact (hsn g (by omega)).1, by rw [g2 _ (by omega)]; exact (hsn g' (by omega)).1⟩, ?_, ?_, fun i hi => ?_, fun i i2 hi hi2 => ?_⟩) (fun _ _ _ => rfl) rfl rfl
    · rw [g6 5 (by omega), f5, ax_u_at]
    · rw [g6 6 (by omega), f6, ax_u_at]
    · rw [g6 7 (by omega), f7, if_pos (by omega), g5 i hi]
    · rw [Nat.add_assoc, g5 (3 * i + i2) (by omega)]
      exact ⟨rl_0in, fun _ => rfl⟩
