/-! ===== pairs: diagram ===== -/
/-- where seven numbers lie, or why not -/
theorem gw_where {I : ax_I} {L : ax_L} (h : rl_P I L) {j : Nat} (hj : j < 4) (i : Int32) :
    (¬ I (639 + 28) j = 0 ∧ ax_rf (I (0 + (623 + 2 * j)) 0) (I (0 + (623 + 2 * j)) 1) (nI 0) i (nI 7) = (if I (639 + 28) j < 0 then -11 else -13)) ∨
    (∃ z, I (639 + 28) j = nI 0 ∧ I (639 + 29) j = nI z ∧ (i < 0 ∨ nI z - nI 7 < i) ∧ ax_rf (I (0 + (623 + 2 * j)) 0) (I (0 + (623 + 2 * j)) 1) (nI 0) i (nI 7) = -12) ∨
    (∃ z f, I (639 + 28) j = nI 0 ∧ I (639 + 29) j = nI z ∧ z ≤ 40 ∧ f + 7 ≤ z ∧ i = nI f ∧ ax_rf (I (0 + (623 + 2 * j)) 0) (I (0 + (623 + 2 * j)) 1) (nI 0) (nI f) (nI 7) = nI 0) := by
  obtain ⟨⟨z, hz, p1, p2⟩, p3, p4, p5⟩ := h j hj
  have z0 : 0 + (623 + 2 * j) = 623 + 2 * j := Nat.zero_add _
  show (¬ I 667 j = 0 ∧ _ = (if I 667 j < 0 then -11 else -13)) ∨ (∃ z, I 667 j = nI 0 ∧ I 668 j = nI z ∧ _) ∨ ∃ z f, I 667 j = nI 0 ∧ I 668 j = nI z ∧ _
  rw [z0, p3, p1]
  by_cases hs : I 667 j = nI 0
  · have t1 : (nI 7).toInt = 7 := by decide
    have t2 : (nI z - nI 7).toInt = z - 7 := by
      rw [Int32.toInt_sub, nI_toInt (by omega), t1]
      exact Int.bmod_eq_of_le (by omega) (by omega)
    by_cases ho : i < 0 ∨ nI z - nI 7 < i
    · refine Or.inr (Or.inl ⟨z, hs, p2, ho, ?_⟩)
      rw [hs]
      unfold ax_rf
      rw [if_neg (by decide), if_pos rfl, if_neg (by decide)]
      by_cases c : i < 0
      · rw [if_pos c]
      · rw [if_neg c, if_neg (fun y => by
          have c2 : nI z - nI 7 < i := by rcases ho with y | y; exact absurd y c; exact y
          rw [Int32.lt_iff_toInt_lt] at c2
          rw [Int32.le_iff_toInt_le] at y
          omega)]
    · have c1 : 0 ≤ i.toInt := by
        apply Classical.byContradiction
        intro y
        exact ho (Or.inl (by rw [Int32.lt_iff_toInt_lt, rl_i0]; omega))
      have c2 : i.toInt ≤ z - 7 := by
        apply Classical.byContradiction
        intro y
        exact ho (Or.inr (by rw [Int32.lt_iff_toInt_lt, t2]; omega))
      have e3 : i = nI i.toInt.toNat := rl_ofInt (by omega) (by omega)
      have hi : i.toInt.toNat + 7 ≤ z := by omega
      generalize i.toInt.toNat = f at e3 hi
      refine Or.inr (Or.inr ⟨z, f, hs, p2, hz, hi, e3, ?_⟩)
      rw [hs]
      unfold ax_rf
      rw [if_neg (by decide), if_pos rfl, if_neg (by decide), if_neg (fun y => ho (Or.inl (by rw [e3]; exact y))), if_pos (by rw [Int32.le_iff_toInt_le, t2, nI_toInt (by omega)]; omega)]; rfl
  · have sneg : I 667 j = -1 ∨ ¬ I 667 j < 0 := by
      rcases p4 with e | ⟨u, hu, e⟩
      · exact Or.inl e
      · refine Or.inr ?_
        rw [e, Int32.lt_iff_toInt_lt, nI_toInt (by omega), rl_i0]; omega
    refine Or.inl ⟨hs, ?_⟩
    unfold ax_rf
    rcases sneg with e | e
    · rw [e, if_pos rfl, if_pos (by decide)]
    · rw [if_neg e, if_neg (fun y => e (by rw [y]; decide)), if_neg hs]
theorem gw_kM {S : Nat → Int32} {mp fr tg gn gc : Nat → Nat} {I : ax_I} (hSt : rl_St 1 I S) (hT : gw_M I S mp fr tg gn) (hsn : ∀ g, g < 6 → S (14 * g) = nI (gn g) ∧ gn g ≤ 3) (hsc : ∀ g, g < 6 → S (14 * g + 1) = nI (gc g) ∧ gc g ≤ 4) : ∀ k, k < 7 → ax_M1k 639 (mp k) (tg k) (gn (fr k)) (gn (tg k)) (gc (tg k)) S := fun k hk =>
  (rl_M1t hSt.2.1 hSt.2.2.1 hsn hsc (hT k hk).1).1
set_option maxRecDepth 20000 in
theorem rl_20 (l : Launch) (D : va_G) (T : Nat → ClassId) (o : Nat) : law_P20 l D T o 1000 rl_Rel 0 639 := by
  intro x G I L h
  obtain ⟨r1, r2, r3, r4, r5, r6, r7⟩ := id h
  cases hb : ax_rng (x 1) 4 with
  | false =>
    have hb2 := hb
    rw [rl_rng4] at hb2
    exact ay_PI.mk (k_X10_diagram_bad l D T o 1000 G I L 0 (x 1) (x 2) r1.1 hb (by omega)) (k_X11_diagram_why l D T o 1000 G I L 639 (x 1) (x 2) (-1) r1.2.1 (by decide) (k_X11_against_bad l D T o 999 G I L 639 (x 1) (x 2) r1.2.1 (by omega) hb2) (by omega)) rfl h
  | true =>
    rw [rl_rng4] at hb
    obtain ⟨j, hj, ej⟩ := ax_in3_nat (h := 3) (by omega) hb
    rw [ej]
    rcases gw_where r6 (j := j) (by omega) (x 2) with ⟨hs, hrf⟩ | ⟨z, hs, hz, ho, hrf⟩ | ⟨z, f, hs, hz, hz4, hf7, ef, hrf⟩
    · have K := k_X10_diagram_no l D T o 1000 G I L 0 j (x 2) r1.1 (by omega) (by rw [hrf]; split <;> decide) (by omega)
      rw [hrf] at K
      exact ay_PI.mk K (k_X11_diagram_why l D T o 1000 G I L 639 (nI j) (x 2) _ r1.2.1 (by split <;> decide) (k_X11_against_other l D T o 999 G I L 639 j (x 2) r1.2.1 (by omega) hs (by omega)) (by omega)) rfl h
    · have K := k_X10_diagram_no l D T o 1000 G I L 0 j (x 2) r1.1 (by omega) (by rw [hrf]; decide) (by omega)
      rw [hrf] at K
      exact ay_PI.mk K (k_X11_diagram_why l D T o 1000 G I L 639 (nI j) (x 2) _ r1.2.1 (by decide) (k_X11_against_out l D T o 999 G I L 639 j z (x 2) r1.2.1 (by omega) hs hz ho (by omega)) (by omega)) rfl h
    · rw [ef]
      obtain ⟨gn, gc, hgn, hgc, hsn, hsc⟩ := rl_gngc r2
      rcases gw_read h (j := j) (by omega) hz4 hf7 hsn hsc with ⟨e0, mp, fr, h1, h2, h3, h4, h5⟩ | ⟨mp, fr, tg, h1, h2, h3, h4, h5, h6, hT⟩
      · have d1 : ∀ q, q ≠ 362 → ax_drd L (0 + 361) (0 + (624 + 2 * j)) f (e0 + 1) I q = I q := fun q hq => ax_drd_ne (by omega) _
        refine ay_PI.mk (k_X10_diagram_nomap l D T o 1000 G I L 0 j f e0 mp fr r1.1 (by omega) hrf (by omega) h1 h2 h3 h4 (by omega)) (k_X11_diagram_nomap l D T o 1000 G (ax_drd L (0 + 361) (0 + (624 + 2 * j)) f (e0 + 1) I) L 639 j f z r1.2.1 (by omega) (by rw [d1 _ (by omega)]; exact hs) (by rw [d1 _ (by omega)]; exact hz) hz4 hf7 ?_ (by omega)) rfl ?_
        · rcases gw_first (fun e => ax_in3 (L 669 (40 * j + f + e)).toInt32.toInt64 0 7 && !decide (I 640 (84 + 11 * (L 669 (40 * j + f + e)).toInt32.toNatClampNeg) < 0)) 7 with hg | ⟨e1, g1, g2, -⟩
          · have := hg e0 h1
            try dsimp only at this
            rw [← rl_isMap r2] at this
            have e9 : L (0 + (624 + 2 * j)) (f + e0) = L 669 (40 * j + f + e0) := by
              rw [Nat.zero_add, (r6 j (by omega)).2.2.2 (f + e0) (by omega), Nat.add_assoc]
            rw [e9] at h4
            exact absurd (h4.symm.trans this) (by decide)
          · exact (gw_agn (m := 639) (by omega) 7).2 ⟨e1, g1, by rw [d1 (639 + 1) (by omega)]; exact g2⟩
        · refine h.work4 (fun q hq => ?_) (fun z hz => ?_) (fun q hq => rfl)
          · rw [(gw_agn (m := 639) (by omega) 7).1 q (by omega)]; exact d1 q (by omega)
          · rw [(gw_agn (m := 639) (by omega) 7).1 639 (by omega)]; exact congrFun (d1 639 (by omega)) z
      · have d1 : ∀ q, q ≠ 362 → ax_drd L (0 + 361) (0 + (624 + 2 * j)) f 7 I q = I q := fun q hq => ax_drd_ne (by omega) _
        have hfr : ∀ k, k < 7 → fr k < 6 := fun k hk => (h5 k hk).2
        rcases gw_fit (fr := fr) (tg := tg) with ⟨c1, hE, c2⟩ | ⟨c1, c2⟩
        · have St1 : rl_St 1 (ax_drd L (0 + 361) (0 + (624 + 2 * j)) f 7 I) (I 640) := r2.far (fun q hq => d1 q (by omega))
          have hT1 : gw_M (ax_drd L (0 + 361) (0 + (624 + 2 * j)) f 7 I) (I 640) mp fr tg gn := hT.far (d1 7 (by omega))
          have K := k_X10_diagram l D T o 1000 G I L 0 j f mp fr tg gn gc r1.1 (by omega) hrf (by omega) hgn hgc h1 h2 h3 c1 (by omega)
          have f1 : ax_diI I L 0 j f mp fr tg gn gc = ax_irI (ax_drd L (0 + 361) (0 + (624 + 2 * j)) f 7 I) L 361 1 mp fr tg gn gc := rfl
          have f2 : ax_diL I L 0 j f mp fr tg gn gc = ax_irL (ax_drd L (0 + 361) (0 + (624 + 2 * j)) f 7 I) L 361 1 mp fr tg gn gc := rfl
          have f3 : ax_div I L 0 j f mp fr tg gn gc = if ax_irv (ax_drd L (0 + 361) (0 + (624 + 2 * j)) f 7 I) L 361 1 mp fr tg gn gc = true then nI 1 else nI 0 := rfl
          rw [f1, f2, f3] at K
          generalize ax_drd L (0 + 361) (0 + (624 + 2 * j)) f 7 I = I1 at *
          have RT := fun Ir Lr => gw_right (I := I1) (L := L) (Ir := Ir) (Lr := Lr) St1 hT1 hsn hsc hE
          have i1 : ∀ q, ¬ (363 ≤ q ∧ q < 477) → ax_irI I1 L 361 1 mp fr tg gn gc q = I1 q := fun q hq => ax_irI_ne (by omega)
          have l1 := (RT I1 L).2.1
          generalize ax_irI I1 L 361 1 mp fr tg gn gc = I2 at *
          generalize ax_irL I1 L 361 1 mp fr tg gn gc = L2 at *
          have e640 : I2 (639 + 1) = I 640 := (i1 640 (by omega)).trans (d1 640 (by omega))
          have K2 := k_X11_diagram l D T o 1000 G I2 L2 639 j f z mp fr tg gn gc (I 640) r1.2.1 e640 hsn hsc (rl_N1k r2.2.1 hsn hsc) (gw_kM r2 hT hsn hsc) (by omega) (by rw [i1 _ (by omega), d1 _ (by omega)]; exact hs) (by rw [i1 _ (by omega), d1 _ (by omega)]; exact hz) hz4 hf7 (fun k hk => (h1 k hk).2) h5 h6 (fun k hk => by rw [show L2 (639 + 30) = L 669 from l1 669 (by omega)]; exact h4 k hk) c2 (by omega)
          have g1 : ax_diRI I2 L2 639 j f mp fr tg gn gc (I 640) = ax_irRI (ax_dgd L2 639 (40 * j + f) 7 I2) L2 639 mp fr tg gn gc (I 640) := rfl
          have g2 : ax_diRL I2 L2 639 j f mp fr tg gn gc (I 640) = ax_irRL (ax_dgd L2 639 (40 * j + f) 7 I2) L2 639 mp fr tg gn gc (I 640) := rfl
          have g3 : ax_diRv I2 L2 639 j f mp fr tg gn gc (I 640) = if ax_irRv (ax_dgd L2 639 (40 * j + f) 7 I2) L2 639 mp fr tg gn gc (I 640) = true then nI 1 else nI 0 := rfl
          rw [g1, g2, g3] at K2
          have i3 : ∀ q, q ≠ 663 → ax_dgd L2 639 (40 * j + f) 7 I2 q = I2 q := fun q hq => ax_dgd_ne (by omega) 7
          generalize ax_dgd L2 639 (40 * j + f) 7 I2 = I3 at *
          obtain ⟨t1, -, t3, t4⟩ := RT I3 L2
          have i4 : ∀ q, q ≠ 639 → ax_irRI I3 L2 639 mp fr tg gn gc (I 640) q = I3 q := fun q hq => ax_irRI_ne hq
          refine ay_PI.mk K K2 (by rw [t1]) ?_
          refine h.work4 (fun q hq => ?_) (fun z hz => ?_) (fun q hq => ?_)
          · rw [i4 q (by omega), i3 q (by omega), i1 q (by omega)]; exact d1 q (by omega)
          · rw [t4 z (by omega), i3 639 (by omega), i1 639 (by omega)]; exact congrFun (d1 639 (by omega)) z
          · exact (t3 q (by omega) (by omega) (by omega) (by omega) (by omega) (by omega) (by omega) (by omega) (by omega) (by omega) (by omega) (by omega)).trans (l1 q (by omega))
        · have K := k_X10_diagram_unfit l D T o 1000 G I L 0 j f mp fr tg r1.1 (by omega) hrf (by omega) h1 h2 h3 c1 (by omega)
          generalize ax_drd L (0 + 361) (0 + (624 + 2 * j)) f 7 I = I1 at *
          have K2 := k_X11_diagram_unfit l D T o 1000 G I1 L 639 j f z mp fr tg gn gc (I 640) r1.2.1 (d1 640 (by omega)) hsn hsc (by omega) (by rw [d1 _ (by omega)]; exact hs) (by rw [d1 _ (by omega)]; exact hz) hz4 hf7 (fun k hk => (h1 k hk).2) h5 h6 h4 c2 (by omega)
          refine ay_PI.mk K K2 rfl ?_
          refine h.work4 (fun q hq => ?_) (fun z hz => ?_) (fun q hq => rfl)
          · rw [ax_dgd_ne (by omega)]; exact d1 q (by omega)
          · rw [ax_dgd_ne (by omega)]; exact congrFun (d1 639 (by omega)) z
