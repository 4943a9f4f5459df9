/-! ===== pairs: connected ===== -/
theorem gz_ce {x : Nat → Int32} {n : Nat} (hn : n ≤ 3) (he : (ax_in3 (x 3).toInt64 (-999) 999 && ax_in3 (x 4).toInt64 (-999) 999 && ax_in3 (x 5).toInt64 (-999) 999) = true) : (∀ z, ((fun z => if z < n then mx_e (x 3) (x 4) (x 5) z else 0) z).natAbs ≤ 999) ∧ (∀ z, n ≤ z → (fun z => if z < n then mx_e (x 3) (x 4) (x 5) z else 0) z = 0) ∧ (∀ (L : ax_L) z, z < 3 → ax_tl 621 n (x 3) (x 4) (x 5) L 621 z = Int64.ofInt ((fun z => if z < n then mx_e (x 3) (x 4) (x 5) z else 0) z)) ∧ ∀ t (N : ax_L), ∀ z, z < 6 → ax_st t n (x 3).toInt64 (x 4).toInt64 (x 5).toInt64 N t z = Int64.ofInt ((fun z => if z < n then mx_e (x 3) (x 4) (x 5) z else 0) z) := by
  refine ⟨fun z => ?_, fun z hz => if_neg (by omega), fun L z hz => ?_, fun t N z hz => ?_⟩
  · try dsimp only
    split
    · exact mx_e.b he z
    · exact Nat.zero_le _
  · try dsimp only
    by_cases c : z < n
    · rw [if_pos c]; exact mx_e.tl hn c
    · rw [if_neg c, rl_tl hz, if_neg c]; rfl
  · try dsimp only
    by_cases c : z < n
    · rw [if_pos c]; exact mx_e.st hn c
    · rw [if_neg c]
      by_cases c3 : z < 3
      · rw [rl_st c3, if_neg c]; rfl
      · rw [gw_st6 (by omega) hz]; rfl
set_option maxRecDepth 20000 in
theorem rl_21 (l : Launch) (D : va_G) (T : Nat → ClassId) (o : Nat) : law_P21 l D T o 1000 rl_Rel 0 639 := by
  intro x G I L h
  obtain ⟨r1, r2, r3, r4, r5, r6, r7⟩ := id h
  cases hb : ax_rng (x 1) 4 with
  | false =>
    have hb2 := hb
    rw [rl_rng4] at hb2
    exact ay_PJ.mk (k_X10_connected_bad l D T o 1000 G I L 0 (x 1) (x 2) (x 3) (x 4) (x 5) (x 6) r1.1 hb (by omega)) (k_X11_connected_why l D T o 1000 G I L 639 (x 1) (x 2) (x 3) (x 4) (x 5) (x 6) (-1) r1.2.1 (by decide) (k_X11_against_bad l D T o 999 G I L 639 (x 1) (x 2) r1.2.1 (by omega) hb2) (by omega)) (by decide) h
  | true =>
    rw [rl_rng4] at hb
    obtain ⟨j, hj, ej⟩ := ax_in3_nat (h := 3) (by omega) hb
    rw [ej]
    rcases gw_where r6 (j := j) (by omega) (x 2) with ⟨hs, hrf⟩ | ⟨z, hs, hz, ho, hrf⟩ | ⟨z, f, hs, hz, hz4, hf7, ef, hrf⟩
    · have K := k_X10_connected_no l D T o 1000 G I L 0 j (x 2) (x 3) (x 4) (x 5) (x 6) r1.1 (by omega) (by rw [hrf]; split <;> decide) (by omega)
      rw [hrf] at K
      exact ay_PJ.mk K (k_X11_connected_why l D T o 1000 G I L 639 (nI j) (x 2) (x 3) (x 4) (x 5) (x 6) _ r1.2.1 (by split <;> decide) (k_X11_against_other l D T o 999 G I L 639 j (x 2) r1.2.1 (by omega) hs (by omega)) (by omega)) (by split <;> decide) h
    · have K := k_X10_connected_no l D T o 1000 G I L 0 j (x 2) (x 3) (x 4) (x 5) (x 6) r1.1 (by omega) (by rw [hrf]; decide) (by omega)
      rw [hrf] at K
      exact ay_PJ.mk K (k_X11_connected_why l D T o 1000 G I L 639 (nI j) (x 2) (x 3) (x 4) (x 5) (x 6) _ r1.2.1 (by decide) (k_X11_against_out l D T o 999 G I L 639 j z (x 2) r1.2.1 (by omega) hs hz ho (by omega)) (by omega)) (by decide) h
    · rw [ef]
      obtain ⟨gn, gc, hgn, hgc, hsn, hsc⟩ := rl_gngc r2
      rcases gw_read h (j := j) (by omega) hz4 hf7 hsn hsc with ⟨e0, mp, fr, h1, h2, h3, h4, h5⟩ | ⟨mp, fr, tg, h1, h2, h3, h4, h5, h6, hT⟩
      · have d1 : ∀ q, q ≠ 362 → ax_drd L (0 + 361) (0 + (624 + 2 * j)) f (e0 + 1) I q = I q := fun q hq => ax_drd_ne (by omega) _
        refine ay_PJ.mk (k_X10_connected_nomap l D T o 1000 G I L 0 j f e0 mp fr (x 3) (x 4) (x 5) (x 6) r1.1 (by omega) hrf (by omega) h1 h2 h3 h4 (by omega)) (k_X11_connected_nomap l D T o 1000 G (ax_drd L (0 + 361) (0 + (624 + 2 * j)) f (e0 + 1) I) L 639 j f z (x 3) (x 4) (x 5) (x 6) r1.2.1 (by omega) (by rw [d1 _ (by omega)]; exact hs) (by rw [d1 _ (by omega)]; exact hz) hz4 hf7 ?_ (by omega)) (by decide) ?_
        · rcases gw_first (fun e => ax_in3 (L 669 (40 * j + f + e)).toInt32.toInt64 0 7 && !decide (I 640 (84 + 11 * (L 669 (40 * j + f + e)).toInt32.toNatClampNeg) < 0)) 7 with hg | ⟨e1, g1, g2, -⟩
          · have := hg e0 h1
            try dsimp only at this
            rw [← rl_isMap r2] at this
            have e9 : L (0 + (624 + 2 * j)) (f + e0) = L 669 (40 * j + f + e0) := by
              rw [Nat.zero_add, (r6 j (by omega)).2.2.2 (f + e0) (by omega), Nat.add_assoc]
            rw [e9] at h4
            exact absurd (h4.symm.trans this) (by decide)
          · exact (gw_agn (m := 639) (by omega) 7).2 ⟨e1, g1, by rw [d1 (639 + 1) (by omega)]; exact g2⟩
        · refine h.work4 (fun q hq => ?_) (fun z hz => ?_) (fun q hq => rfl)
          · rw [(gw_agn (m := 639) (by omega) 7).1 q (by omega)]; exact d1 q (by omega)
          · rw [(gw_agn (m := 639) (by omega) 7).1 639 (by omega)]; exact congrFun (d1 639 (by omega)) z
      · have d1 : ∀ q, q ≠ 362 → ax_drd L (0 + 361) (0 + (624 + 2 * j)) f 7 I q = I q := fun q hq => ax_drd_ne (by omega) _
        rcases gw_fit (fr := fr) (tg := tg) with ⟨c1, hE, c2⟩ | ⟨c1, c2⟩
        case inr =>
          have K := k_X10_connected_unfit l D T o 1000 G I L 0 j f mp fr tg (x 3) (x 4) (x 5) (x 6) r1.1 (by omega) hrf (by omega) h1 h2 h3 c1 (by omega)
          generalize ax_drd L (0 + 361) (0 + (624 + 2 * j)) f 7 I = I1 at *
          have K2 := k_X11_connected_unfit l D T o 1000 G I1 L 639 j f z mp fr tg gn gc (I 640) (x 3) (x 4) (x 5) (x 6) r1.2.1 (d1 640 (by omega)) hsn hsc (by omega) (by rw [d1 _ (by omega)]; exact hs) (by rw [d1 _ (by omega)]; exact hz) hz4 hf7 (fun k hk => (h1 k hk).2) h5 h6 h4 c2 (by omega)
          refine ay_PJ.mk K K2 (by decide) ?_
          refine h.work4 (fun q hq => ?_) (fun z hz => ?_) (fun q hq => rfl)
          · rw [ax_dgd_ne (by omega)]; exact d1 q (by omega)
          · rw [ax_dgd_ne (by omega)]; exact congrFun (d1 639 (by omega)) z
        case inl =>
          have St1 : rl_St 1 (ax_drd L (0 + 361) (0 + (624 + 2 * j)) f 7 I) (I 640) := r2.far (fun q hq => d1 q (by omega))
          have hT1 : gw_M (ax_drd L (0 + 361) (0 + (624 + 2 * j)) f 7 I) (I 640) mp fr tg gn := hT.far (d1 7 (by omega))
          have KS := k_X10_connected_state l D T o 1000 G I L 0 j f mp fr tg gn gc (x 3) (x 4) (x 5) (x 6) r1.1 (by omega) hrf (by omega) hgn hgc h1 h2 h3 c1
          have KE := k_X10_connected_el l D T o 1000 G I L 0 j f mp fr tg gn gc (x 3) (x 4) (x 5) (x 6) r1.1 (by omega) hrf (by omega) hgn hgc h1 h2 h3 c1
          have KO := k_X10_connected_out l D T o 1000 G I L 0 j f mp fr tg gn gc (x 3) (x 4) (x 5) (x 6) r1.1 (by omega) hrf (by omega) hgn hgc h1 h2 h3 c1
          have KC := fun k => k_X10_connected l D T o 1000 G I L 0 j f k mp fr tg gn gc (x 3) (x 4) (x 5) r1.1 (by omega) hrf (by omega) hgn hgc h1 h2 h3 c1
          have z0 : ax_irv (ax_drd L (0 + 361) (0 + (624 + 2 * j)) f 7 I) L (0 + 361) (0 + 1) mp fr tg gn gc = ax_irv (ax_drd L (0 + 361) (0 + (624 + 2 * j)) f 7 I) L 361 1 mp fr tg gn gc := rfl
          have z1 : ax_irI (ax_drd L (0 + 361) (0 + (624 + 2 * j)) f 7 I) L (0 + 361) (0 + 1) mp fr tg gn gc = ax_irI (ax_drd L (0 + 361) (0 + (624 + 2 * j)) f 7 I) L 361 1 mp fr tg gn gc := rfl
          have z2 : ax_irL (ax_drd L (0 + 361) (0 + (624 + 2 * j)) f 7 I) L (0 + 361) (0 + 1) mp fr tg gn gc = ax_irL (ax_drd L (0 + 361) (0 + (624 + 2 * j)) f 7 I) L 361 1 mp fr tg gn gc := rfl
          have y1 : ax_coI I L 0 j f mp fr tg gn gc (x 3) (x 4) (x 5) = ax_cnI (ax_irI (ax_drd L (0 + 361) (0 + (624 + 2 * j)) f 7 I) L 361 1 mp fr tg gn gc) (ax_tl 621 (gn (tg 1)) (x 3) (x 4) (x 5) (ax_irL (ax_drd L (0 + 361) (0 + (624 + 2 * j)) f 7 I) L 361 1 mp fr tg gn gc)) 361 1 621 mp fr tg gn gc := rfl
          have y2 : ax_coL I L 0 j f mp fr tg gn gc (x 3) (x 4) (x 5) = ax_cnL (ax_irI (ax_drd L (0 + 361) (0 + (624 + 2 * j)) f 7 I) L 361 1 mp fr tg gn gc) (ax_tl 621 (gn (tg 1)) (x 3) (x 4) (x 5) (ax_irL (ax_drd L (0 + 361) (0 + (624 + 2 * j)) f 7 I) L 361 1 mp fr tg gn gc)) 361 1 621 mp fr tg gn gc := rfl
          have y3 : ∀ k, ax_cov I L 0 j f k mp fr tg gn gc (x 3) (x 4) (x 5) = if ax_cnv (ax_irI (ax_drd L (0 + 361) (0 + (624 + 2 * j)) f 7 I) L 361 1 mp fr tg gn gc) (ax_tl 621 (gn (tg 1)) (x 3) (x 4) (x 5) (ax_irL (ax_drd L (0 + 361) (0 + (624 + 2 * j)) f 7 I) L 361 1 mp fr tg gn gc)) 361 1 621 mp fr tg gn gc = true then ax_cnL (ax_irI (ax_drd L (0 + 361) (0 + (624 + 2 * j)) f 7 I) L 361 1 mp fr tg gn gc) (ax_tl 621 (gn (tg 1)) (x 3) (x 4) (x 5) (ax_irL (ax_drd L (0 + 361) (0 + (624 + 2 * j)) f 7 I) L 361 1 mp fr tg gn gc)) 361 1 621 mp fr tg gn gc 621 k else (-4000000000000000000) + (-3).toInt64 := fun k => rfl
          simp only [y1, y2, y3] at KC
          rw [z0, z1, z2] at KS KE KO
          simp only [z0] at KC
          clear y1 y2 y3 z0 z1 z2
          generalize ax_drd L (0 + 361) (0 + (624 + 2 * j)) f 7 I = I1 at *
          have RT := fun Ir Lr => gw_right (I := I1) (L := L) (Ir := Ir) (Lr := Lr) St1 hT1 hsn hsc hE
          have i1 : ∀ q, ¬ (363 ≤ q ∧ q < 477) → ax_irI I1 L 361 1 mp fr tg gn gc q = I1 q := fun q hq => ax_irI_ne (by omega)
          have l1 := (RT I1 L).2.1
          generalize ax_irI I1 L 361 1 mp fr tg gn gc = I2 at *
          generalize ax_irL I1 L 361 1 mp fr tg gn gc = L2 at *
          have j2 : ∀ q, (q < 361 ∨ 477 ≤ q) → I2 q = I q := fun q hq => (i1 q (by omega)).trans (d1 q (by omega))
          have kN := rl_N1k r2.2.1 hsn hsc
          have kM := gw_kM r2 hT hsn hsc
          -- what the reference asks, at any memory that holds these
          have ask : ∀ (J : ax_I) (M : ax_L), (∀ q, (q < 361 ∨ 477 ≤ q) → J q = I q) → (∀ q, (q < 366 ∨ (480 < q ∧ q ≠ 621)) → M q = L q) → J (639 + 1) = I 640 ∧ J (639 + 28) j = nI 0 ∧ J (639 + 29) j = nI z ∧ ∀ k, k < 7 → (M (639 + 30) (40 * j + f + k)).toInt32 = nI (mp k) := fun J M hJ hM => ⟨hJ 640 (by omega), by rw [hJ _ (by omega)]; exact hs, by rw [hJ _ (by omega)]; exact hz, fun k hk => by rw [show M (639 + 30) = L 669 from hM 669 (by omega)]; exact h4 k hk⟩
          have rel : ∀ (J : ax_I) (M : ax_L) (J' : ax_I) (M' : ax_L), (∀ q, (q < 361 ∨ 477 ≤ q) → J q = I q) → (∀ q, (q < 366 ∨ (480 < q ∧ q ≠ 621)) → M q = L q) → (∀ q, q ≠ 639 → q ≠ 663 → J' q = J q) → (∀ z, z ≠ 6 → J' 639 z = J 639 z) → (∀ q, ((623 ≤ q ∧ q < 639) ∨ q = 669 ∨ q = 672) → M' q = M q) → rl_Rel G J' M' := fun J M J' M' a1 a2 a3 a4 a5 => by
            refine h.work4 (fun q hq => ?_) (fun z hz => ?_) (fun q hq => ?_)
            · rw [a3 q (by omega) (by omega)]; exact a1 q (by omega)
            · rw [a4 z (by omega)]; exact congrFun (a1 639 (by omega)) z
            · rw [a5 q hq]; exact a2 q (by omega)
          have dg : ∀ (J : ax_I) (M : ax_L) q, q ≠ 663 → ax_dgd M 639 (40 * j + f) 7 J q = J q := fun J M q hq => ax_dgd_ne (by omega) 7
          cases hv : ax_irv I1 L 361 1 mp fr tg gn gc with
          | false =>
            obtain ⟨q1, q2, q3, q4⟩ := ask I2 L2 j2 (fun q hq => l1 q (by omega))
            obtain ⟨t1, -, t3, t4⟩ := RT (ax_dgd L2 639 (40 * j + f) 7 I2) L2
            refine ay_PJ.mk (KS hv (by omega)) (k_X11_connected_state l D T o 1000 G I2 L2 639 j f z mp fr tg gn gc (I 640) (x 3) (x 4) (x 5) (x 6) r1.2.1 q1 hsn hsc kN kM (by omega) q2 q3 hz4 hf7 (fun k hk => (h1 k hk).2) h5 h6 q4 c2 (t1.symm.trans hv) (by omega)) (by decide) ?_
            exact rel I2 L2 _ _ j2 (fun q hq => l1 q (by omega)) (fun q a1 a2 => (ax_irRI_ne a1).trans (dg _ _ q a2)) (fun z hz => (t4 z hz).trans (congrFun (dg _ _ 639 (by omega)) z)) (fun q hq => t3 q (by omega) (by omega) (by omega) (by omega) (by omega) (by omega) (by omega) (by omega) (by omega) (by omega) (by omega) (by omega))
          | true =>
            cases he : (ax_iw (x 3).toInt64 (999 : Int32).toInt64 && ax_iw (x 4).toInt64 (999 : Int32).toInt64 && ax_iw (x 5).toInt64 (999 : Int32).toInt64) with
            | false =>
              have he' : (ax_in3 (x 3).toInt64 (-999) 999 && ax_in3 (x 4).toInt64 (-999) 999 && ax_in3 (x 5).toInt64 (-999) 999) = false := he
              obtain ⟨q1, q2, q3, q4⟩ := ask I2 L2 j2 (fun q hq => l1 q (by omega))
              obtain ⟨t1, -, t3, t4⟩ := RT (ax_dgd L2 639 (40 * j + f) 7 I2) L2
              refine ay_PJ.mk (KE hv he (by omega)) (k_X11_connected_el l D T o 1000 G I2 L2 639 j f z mp fr tg gn gc (I 640) (x 3) (x 4) (x 5) (x 6) r1.2.1 q1 hsn hsc kN kM (by omega) q2 q3 hz4 hf7 (fun k hk => (h1 k hk).2) h5 h6 q4 c2 (t1.symm.trans hv) he' (by omega)) (by decide) ?_
              exact rel I2 L2 _ _ j2 (fun q hq => l1 q (by omega)) (fun q a1 a2 => (ax_irRI_ne a1).trans (dg _ _ q a2)) (fun z hz => (t4 z hz).trans (congrFun (dg _ _ 639 (by omega)) z)) (fun q hq => t3 q (by omega) (by omega) (by omega) (by omega) (by omega) (by omega) (by omega) (by omega) (by omega) (by omega) (by omega) (by omega))
            | true =>
              have he' : (ax_in3 (x 3).toInt64 (-999) 999 && ax_in3 (x 4).toInt64 (-999) 999 && ax_in3 (x 5).toInt64 (-999) 999) = true := he
              have f2 := (h5 2 (by omega)).2
              have g2 := hsn (fr 2) f2
              cases hk : ax_rng (x 6) (nI (gn (fr 2))) with
              | false =>
                have hk2 := hk
                rw [rl_rngS _ (by omega)] at hk2
                obtain ⟨q1, q2, q3, q4⟩ := ask I2 L2 j2 (fun q hq => l1 q (by omega))
                obtain ⟨t1, -, t3, t4⟩ := RT (ax_dgd L2 639 (40 * j + f) 7 I2) L2
                have hpl : (ax_in3 (nI (fr 2)).toInt64 0 5 && ax_in3 (x 6).toInt64 0 (I 640 (14 * (nI (fr 2)).toNatClampNeg) - 1).toInt64) = false := by
                  rw [nI_clamp (by omega), g2.1]
                  have e : ax_in3 (x 6).toInt64 0 (nI (gn (fr 2)) - 1).toInt64 = false := hk2
                  rw [e, Bool.and_false]
                refine ay_PJ.mk (KO hv he hk (by omega)) (k_X11_connected_out l D T o 1000 G I2 L2 639 j f z mp fr tg gn gc (I 640) (x 3) (x 4) (x 5) (x 6) r1.2.1 q1 hsn hsc kN kM (by omega) q2 q3 hz4 hf7 (fun k hk => (h1 k hk).2) h5 h6 q4 c2 (t1.symm.trans hv) he' hpl (by omega)) (by decide) ?_
                exact rel I2 L2 _ _ j2 (fun q hq => l1 q (by omega)) (fun q a1 a2 => (ax_irRI_ne a1).trans (dg _ _ q a2)) (fun z hz => (t4 z hz).trans (congrFun (dg _ _ 639 (by omega)) z)) (fun q hq => t3 q (by omega) (by omega) (by omega) (by omega) (by omega) (by omega) (by omega) (by omega) (by omega) (by omega) (by omega) (by omega))
              | true =>
                rw [rl_rngS _ (by omega)] at hk
                obtain ⟨k, hk', ek⟩ := ax_in3_natS (by omega) hk
                rw [ek]
                have K := KC k hv he hk' (by omega)
                clear KC KS KE KO
                have St2 : rl_St 1 I2 (I 640) := r2.far (fun q hq => j2 q (by omega))
                have T2 : gw_M I2 (I 640) mp fr tg gn := hT.far (j2 7 (by omega))
                have e7 : fr 6 = tg 1 := hE.2.2.2.2.2.2.1.symm
                have gt := (hsn (tg 1) (h6 1 (by omega)).2).2
                obtain ⟨ce1, ce2, ce3, ce4⟩ := gz_ce (x := x) (n := gn (tg 1)) gt he'
                have tr := gz_truth (Ir := I1) (Lr := L) St1 hT1 hsn hsc hE ((RT I1 L).1.symm.trans hv)
                obtain ⟨w1, w2, w3, w4, w5⟩ := tr
                have lt : ∀ q, q ≠ 621 → ax_tl 621 (gn (tg 1)) (x 3) (x 4) (x 5) L2 q = L2 q := fun q hq => by
                  unfold ax_tl
                  rw [ax_u_ne hq, ax_u_ne hq, ax_u_ne hq]
                have CN := fun M0 => gz_conn (x := x 3) (y := x 4) (u := x 5) (c := fun z => if z < gn (tg 1) then mx_e (x 3) (x 4) (x 5) z else 0) (L := ax_tl 621 (gn (tg 1)) (x 3) (x 4) (x 5) L2) (M0 := M0) St2 T2 hsn hsc hE w1 w2 w3 w4 w5 ce1 ce2 (ce3 L2) (by rw [e7]; exact ce4)
                have n2 := (CN L).2.1
                have n3 := (CN L).2.2.1
                have M2' : ∀ q, (q < 366 ∨ (480 < q ∧ q ≠ 621)) → ax_cnL I2 (ax_tl 621 (gn (tg 1)) (x 3) (x 4) (x 5) L2) 361 1 621 mp fr tg gn gc q = L q := fun q hq => by rw [n2 q hq, lt q (by omega)]; exact l1 q (by omega)
                have J2' : ∀ q, (q < 361 ∨ 477 ≤ q) → ax_cnI I2 (ax_tl 621 (gn (tg 1)) (x 3) (x 4) (x 5) L2) 361 1 621 mp fr tg gn gc q = I q := fun q hq => by rw [n3 q (by omega)]; exact j2 q hq
                generalize ax_cnI I2 (ax_tl 621 (gn (tg 1)) (x 3) (x 4) (x 5) L2) 361 1 621 mp fr tg gn gc = I3 at *
                generalize ax_cnL I2 (ax_tl 621 (gn (tg 1)) (x 3) (x 4) (x 5) L2) 361 1 621 mp fr tg gn gc = L3 at *
                generalize ax_cnv I2 (ax_tl 621 (gn (tg 1)) (x 3) (x 4) (x 5) L2) 361 1 621 mp fr tg gn gc = cv at *
                obtain ⟨q1, q2, q3, q4⟩ := ask I3 L3 J2' M2'
                obtain ⟨t1, -, t3, t4⟩ := RT (ax_dgd L3 639 (40 * j + f) 7 I3) L3
                have K2 := k_X11_connected l D T o 1000 G I3 L3 639 j f z k mp fr tg gn gc (I 640) (x 3) (x 4) (x 5) r1.2.1 q1 hsn hsc kN kM (by omega) q2 q3 hz4 hf7 (fun k hk => (h1 k hk).2) h5 h6 q4 c2 (t1.symm.trans hv) he' hk' (by omega)
                have v1 : ax_coRv I3 L3 639 j f k mp fr tg gn gc (I 640) (x 3) (x 4) (x 5) = if ax_all0 (ax_rs 665 644 0 ((gn (tg 6)) - 0) (ax_N1t 639 (tg 6) 644 (gn (tg 6)) (gc (tg 6)) (I 640) (gw_im (I 640) 665 666 (mp 6) (gn (fr 6)) (gn (tg 6)) (ax_st 666 (gn (fr 6)) (x 3).toInt64 (x 4).toInt64 (x 5).toInt64 (ax_irRL (ax_dgd L3 639 (40 * j + f) 7 I3) L3 639 mp fr tg gn gc (I 640)))))) 665 0 6 = true then (ax_rs 655 646 0 ((gn (tg 4)) - 0) (ax_M1t 639 (mp 4) (tg 4) (gn (fr 4)) (gn (tg 4)) (gc (tg 4)) (I 640) (ax_cb 639 (gn (fr 2)) (gn (tg 2)) (ax_M1t 639 (mp 2) (tg 2) (gn (fr 2)) (gn (tg 2)) (gc (tg 2)) (I 640) (ax_st 655 3 ((ax_rs 665 644 0 ((gn (tg 5)) - 0) (ax_N1t 639 (tg 5) 644 (gn (tg 5)) (gc (tg 5)) (I 640) (gw_im (I 640) 665 655 (mp 5) (gn (fr 5)) (gn (tg 5)) (ax_cb 639 (gn (fr 1)) (gn (tg 1)) (ax_M1t 639 (mp 1) (tg 1) (gn (fr 1)) (gn (tg 1)) (gc (tg 1)) (I 640) (ax_st 655 (gn (fr 6)) (x 3).toInt64 (x 4).toInt64 (x 5).toInt64 (ax_rs 665 644 0 ((gn (tg 6)) - 0) (ax_N1t 639 (tg 6) 644 (gn (tg 6)) (gc (tg 6)) (I 640) (gw_im (I 640) 665 666 (mp 6) (gn (fr 6)) (gn (tg 6)) (ax_st 666 (gn (fr 6)) (x 3).toInt64 (x 4).toInt64 (x 5).toInt64 (ax_irRL (ax_dgd L3 639 (40 * j + f) 7 I3) L3 639 mp fr tg gn gc (I 640))))))))).2))) 665 0) ((ax_rs 665 644 0 ((gn (tg 5)) - 0) (ax_N1t 639 (tg 5) 644 (gn (tg 5)) (gc (tg 5)) (I 640) (gw_im (I 640) 665 655 (mp 5) (gn (fr 5)) (gn (tg 5)) (ax_cb 639 (gn (fr 1)) (gn (tg 1)) (ax_M1t 639 (mp 1) (tg 1) (gn (fr 1)) (gn (tg 1)) (gc (tg 1)) (I 640) (ax_st 655 (gn (fr 6)) (x 3).toInt64 (x 4).toInt64 (x 5).toInt64 (ax_rs 665 644 0 ((gn (tg 6)) - 0) (ax_N1t 639 (tg 6) 644 (gn (tg 6)) (gc (tg 6)) (I 640) (gw_im (I 640) 665 666 (mp 6) (gn (fr 6)) (gn (tg 6)) (ax_st 666 (gn (fr 6)) (x 3).toInt64 (x 4).toInt64 (x 5).toInt64 (ax_irRL (ax_dgd L3 639 (40 * j + f) 7 I3) L3 639 mp fr tg gn gc (I 640))))))))).2))) 665 1) ((ax_rs 665 644 0 ((gn (tg 5)) - 0) (ax_N1t 639 (tg 5) 644 (gn (tg 5)) (gc (tg 5)) (I 640) (gw_im (I 640) 665 655 (mp 5) (gn (fr 5)) (gn (tg 5)) (ax_cb 639 (gn (fr 1)) (gn (tg 1)) (ax_M1t 639 (mp 1) (tg 1) (gn (fr 1)) (gn (tg 1)) (gc (tg 1)) (I 640) (ax_st 655 (gn (fr 6)) (x 3).toInt64 (x 4).toInt64 (x 5).toInt64 (ax_rs 665 644 0 ((gn (tg 6)) - 0) (ax_N1t 639 (tg 6) 644 (gn (tg 6)) (gc (tg 6)) (I 640) (gw_im (I 640) 665 666 (mp 6) (gn (fr 6)) (gn (tg 6)) (ax_st 666 (gn (fr 6)) (x 3).toInt64 (x 4).toInt64 (x 5).toInt64 (ax_irRL (ax_dgd L3 639 (40 * j + f) 7 I3) L3 639 mp fr tg gn gc (I 640))))))))).2))) 665 2) (ax_rs 665 644 0 ((gn (tg 5)) - 0) (ax_N1t 639 (tg 5) 644 (gn (tg 5)) (gc (tg 5)) (I 640) (gw_im (I 640) 665 655 (mp 5) (gn (fr 5)) (gn (tg 5)) (ax_cb 639 (gn (fr 1)) (gn (tg 1)) (ax_M1t 639 (mp 1) (tg 1) (gn (fr 1)) (gn (tg 1)) (gc (tg 1)) (I 640) (ax_st 655 (gn (fr 6)) (x 3).toInt64 (x 4).toInt64 (x 5).toInt64 (ax_rs 665 644 0 ((gn (tg 6)) - 0) (ax_N1t 639 (tg 6) 644 (gn (tg 6)) (gc (tg 6)) (I 640) (gw_im (I 640) 665 666 (mp 6) (gn (fr 6)) (gn (tg 6)) (ax_st 666 (gn (fr 6)) (x 3).toInt64 (x 4).toInt64 (x 5).toInt64 (ax_irRL (ax_dgd L3 639 (40 * j + f) 7 I3) L3 639 mp fr tg gn gc (I 640))))))))).2)))))).2)) 655 k else (-3).toInt64 - 4000000000000000000 := rfl
                have v2 : ax_coRL I3 L3 639 j f mp fr tg gn gc (I 640) (x 3) (x 4) (x 5) = if ax_all0 (ax_rs 665 644 0 ((gn (tg 6)) - 0) (ax_N1t 639 (tg 6) 644 (gn (tg 6)) (gc (tg 6)) (I 640) (gw_im (I 640) 665 666 (mp 6) (gn (fr 6)) (gn (tg 6)) (ax_st 666 (gn (fr 6)) (x 3).toInt64 (x 4).toInt64 (x 5).toInt64 (ax_irRL (ax_dgd L3 639 (40 * j + f) 7 I3) L3 639 mp fr tg gn gc (I 640)))))) 665 0 6 = true then (ax_rs 655 646 0 ((gn (tg 4)) - 0) (ax_M1t 639 (mp 4) (tg 4) (gn (fr 4)) (gn (tg 4)) (gc (tg 4)) (I 640) (ax_cb 639 (gn (fr 2)) (gn (tg 2)) (ax_M1t 639 (mp 2) (tg 2) (gn (fr 2)) (gn (tg 2)) (gc (tg 2)) (I 640) (ax_st 655 3 ((ax_rs 665 644 0 ((gn (tg 5)) - 0) (ax_N1t 639 (tg 5) 644 (gn (tg 5)) (gc (tg 5)) (I 640) (gw_im (I 640) 665 655 (mp 5) (gn (fr 5)) (gn (tg 5)) (ax_cb 639 (gn (fr 1)) (gn (tg 1)) (ax_M1t 639 (mp 1) (tg 1) (gn (fr 1)) (gn (tg 1)) (gc (tg 1)) (I 640) (ax_st 655 (gn (fr 6)) (x 3).toInt64 (x 4).toInt64 (x 5).toInt64 (ax_rs 665 644 0 ((gn (tg 6)) - 0) (ax_N1t 639 (tg 6) 644 (gn (tg 6)) (gc (tg 6)) (I 640) (gw_im (I 640) 665 666 (mp 6) (gn (fr 6)) (gn (tg 6)) (ax_st 666 (gn (fr 6)) (x 3).toInt64 (x 4).toInt64 (x 5).toInt64 (ax_irRL (ax_dgd L3 639 (40 * j + f) 7 I3) L3 639 mp fr tg gn gc (I 640))))))))).2))) 665 0) ((ax_rs 665 644 0 ((gn (tg 5)) - 0) (ax_N1t 639 (tg 5) 644 (gn (tg 5)) (gc (tg 5)) (I 640) (gw_im (I 640) 665 655 (mp 5) (gn (fr 5)) (gn (tg 5)) (ax_cb 639 (gn (fr 1)) (gn (tg 1)) (ax_M1t 639 (mp 1) (tg 1) (gn (fr 1)) (gn (tg 1)) (gc (tg 1)) (I 640) (ax_st 655 (gn (fr 6)) (x 3).toInt64 (x 4).toInt64 (x 5).toInt64 (ax_rs 665 644 0 ((gn (tg 6)) - 0) (ax_N1t 639 (tg 6) 644 (gn (tg 6)) (gc (tg 6)) (I 640) (gw_im (I 640) 665 666 (mp 6) (gn (fr 6)) (gn (tg 6)) (ax_st 666 (gn (fr 6)) (x 3).toInt64 (x 4).toInt64 (x 5).toInt64 (ax_irRL (ax_dgd L3 639 (40 * j + f) 7 I3) L3 639 mp fr tg gn gc (I 640))))))))).2))) 665 1) ((ax_rs 665 644 0 ((gn (tg 5)) - 0) (ax_N1t 639 (tg 5) 644 (gn (tg 5)) (gc (tg 5)) (I 640) (gw_im (I 640) 665 655 (mp 5) (gn (fr 5)) (gn (tg 5)) (ax_cb 639 (gn (fr 1)) (gn (tg 1)) (ax_M1t 639 (mp 1) (tg 1) (gn (fr 1)) (gn (tg 1)) (gc (tg 1)) (I 640) (ax_st 655 (gn (fr 6)) (x 3).toInt64 (x 4).toInt64 (x 5).toInt64 (ax_rs 665 644 0 ((gn (tg 6)) - 0) (ax_N1t 639 (tg 6) 644 (gn (tg 6)) (gc (tg 6)) (I 640) (gw_im (I 640) 665 666 (mp 6) (gn (fr 6)) (gn (tg 6)) (ax_st 666 (gn (fr 6)) (x 3).toInt64 (x 4).toInt64 (x 5).toInt64 (ax_irRL (ax_dgd L3 639 (40 * j + f) 7 I3) L3 639 mp fr tg gn gc (I 640))))))))).2))) 665 2) (ax_rs 665 644 0 ((gn (tg 5)) - 0) (ax_N1t 639 (tg 5) 644 (gn (tg 5)) (gc (tg 5)) (I 640) (gw_im (I 640) 665 655 (mp 5) (gn (fr 5)) (gn (tg 5)) (ax_cb 639 (gn (fr 1)) (gn (tg 1)) (ax_M1t 639 (mp 1) (tg 1) (gn (fr 1)) (gn (tg 1)) (gc (tg 1)) (I 640) (ax_st 655 (gn (fr 6)) (x 3).toInt64 (x 4).toInt64 (x 5).toInt64 (ax_rs 665 644 0 ((gn (tg 6)) - 0) (ax_N1t 639 (tg 6) 644 (gn (tg 6)) (gc (tg 6)) (I 640) (gw_im (I 640) 665 666 (mp 6) (gn (fr 6)) (gn (tg 6)) (ax_st 666 (gn (fr 6)) (x 3).toInt64 (x 4).toInt64 (x 5).toInt64 (ax_irRL (ax_dgd L3 639 (40 * j + f) 7 I3) L3 639 mp fr tg gn gc (I 640))))))))).2)))))).2)) else (ax_rs 665 644 0 ((gn (tg 6)) - 0) (ax_N1t 639 (tg 6) 644 (gn (tg 6)) (gc (tg 6)) (I 640) (gw_im (I 640) 665 666 (mp 6) (gn (fr 6)) (gn (tg 6)) (ax_st 666 (gn (fr 6)) (x 3).toInt64 (x 4).toInt64 (x 5).toInt64 (ax_irRL (ax_dgd L3 639 (40 * j + f) 7 I3) L3 639 mp fr tg gn gc (I 640)))))) := rfl
                have v3 : ax_coRI I3 L3 639 j f mp fr tg gn gc (I 640) (x 3) (x 4) (x 5) = if ax_all0 (ax_rs 665 644 0 ((gn (tg 6)) - 0) (ax_N1t 639 (tg 6) 644 (gn (tg 6)) (gc (tg 6)) (I 640) (gw_im (I 640) 665 666 (mp 6) (gn (fr 6)) (gn (tg 6)) (ax_st 666 (gn (fr 6)) (x 3).toInt64 (x 4).toInt64 (x 5).toInt64 (ax_irRL (ax_dgd L3 639 (40 * j + f) 7 I3) L3 639 mp fr tg gn gc (I 640)))))) 665 0 6 = true then ax_u (ax_u (ax_u (ax_u (ax_u (ax_irRI (ax_dgd L3 639 (40 * j + f) 7 I3) L3 639 mp fr tg gn gc (I 640)) 639 6 (nI (gc (tg 6)))) 639 6 (nI (gn (tg 1)))) 639 6 (nI (gc (tg 5)))) 639 6 (nI (gn (tg 2)))) 639 6 (nI (gn (tg 4))) else ax_u (ax_irRI (ax_dgd L3 639 (40 * j + f) 7 I3) L3 639 mp fr tg gn gc (I 640)) 639 6 (nI (gc (tg 6))) := rfl
                rw [v1, v2, v3] at K2
                clear v1 v2 v3
                obtain ⟨p1, -, -, p4, p5, p6⟩ := CN (ax_irRL (ax_dgd L3 639 (40 * j + f) 7 I3) L3 639 mp fr tg gn gc (I 640))
                rw [← p1] at K2 p4
                generalize (ax_rs 655 646 0 ((gn (tg 4)) - 0) (ax_M1t 639 (mp 4) (tg 4) (gn (fr 4)) (gn (tg 4)) (gc (tg 4)) (I 640) (ax_cb 639 (gn (fr 2)) (gn (tg 2)) (ax_M1t 639 (mp 2) (tg 2) (gn (fr 2)) (gn (tg 2)) (gc (tg 2)) (I 640) (ax_st 655 3 ((ax_rs 665 644 0 ((gn (tg 5)) - 0) (ax_N1t 639 (tg 5) 644 (gn (tg 5)) (gc (tg 5)) (I 640) (gw_im (I 640) 665 655 (mp 5) (gn (fr 5)) (gn (tg 5)) (ax_cb 639 (gn (fr 1)) (gn (tg 1)) (ax_M1t 639 (mp 1) (tg 1) (gn (fr 1)) (gn (tg 1)) (gc (tg 1)) (I 640) (ax_st 655 (gn (fr 6)) (x 3).toInt64 (x 4).toInt64 (x 5).toInt64 (ax_rs 665 644 0 ((gn (tg 6)) - 0) (ax_N1t 639 (tg 6) 644 (gn (tg 6)) (gc (tg 6)) (I 640) (gw_im (I 640) 665 666 (mp 6) (gn (fr 6)) (gn (tg 6)) (ax_st 666 (gn (fr 6)) (x 3).toInt64 (x 4).toInt64 (x 5).toInt64 (ax_irRL (ax_dgd L3 639 (40 * j + f) 7 I3) L3 639 mp fr tg gn gc (I 640))))))))).2))) 665 0) ((ax_rs 665 644 0 ((gn (tg 5)) - 0) (ax_N1t 639 (tg 5) 644 (gn (tg 5)) (gc (tg 5)) (I 640) (gw_im (I 640) 665 655 (mp 5) (gn (fr 5)) (gn (tg 5)) (ax_cb 639 (gn (fr 1)) (gn (tg 1)) (ax_M1t 639 (mp 1) (tg 1) (gn (fr 1)) (gn (tg 1)) (gc (tg 1)) (I 640) (ax_st 655 (gn (fr 6)) (x 3).toInt64 (x 4).toInt64 (x 5).toInt64 (ax_rs 665 644 0 ((gn (tg 6)) - 0) (ax_N1t 639 (tg 6) 644 (gn (tg 6)) (gc (tg 6)) (I 640) (gw_im (I 640) 665 666 (mp 6) (gn (fr 6)) (gn (tg 6)) (ax_st 666 (gn (fr 6)) (x 3).toInt64 (x 4).toInt64 (x 5).toInt64 (ax_irRL (ax_dgd L3 639 (40 * j + f) 7 I3) L3 639 mp fr tg gn gc (I 640))))))))).2))) 665 1) ((ax_rs 665 644 0 ((gn (tg 5)) - 0) (ax_N1t 639 (tg 5) 644 (gn (tg 5)) (gc (tg 5)) (I 640) (gw_im (I 640) 665 655 (mp 5) (gn (fr 5)) (gn (tg 5)) (ax_cb 639 (gn (fr 1)) (gn (tg 1)) (ax_M1t 639 (mp 1) (tg 1) (gn (fr 1)) (gn (tg 1)) (gc (tg 1)) (I 640) (ax_st 655 (gn (fr 6)) (x 3).toInt64 (x 4).toInt64 (x 5).toInt64 (ax_rs 665 644 0 ((gn (tg 6)) - 0) (ax_N1t 639 (tg 6) 644 (gn (tg 6)) (gc (tg 6)) (I 640) (gw_im (I 640) 665 666 (mp 6) (gn (fr 6)) (gn (tg 6)) (ax_st 666 (gn (fr 6)) (x 3).toInt64 (x 4).toInt64 (x 5).toInt64 (ax_irRL (ax_dgd L3 639 (40 * j + f) 7 I3) L3 639 mp fr tg gn gc (I 640))))))))).2))) 665 2) (ax_rs 665 644 0 ((gn (tg 5)) - 0) (ax_N1t 639 (tg 5) 644 (gn (tg 5)) (gc (tg 5)) (I 640) (gw_im (I 640) 665 655 (mp 5) (gn (fr 5)) (gn (tg 5)) (ax_cb 639 (gn (fr 1)) (gn (tg 1)) (ax_M1t 639 (mp 1) (tg 1) (gn (fr 1)) (gn (tg 1)) (gc (tg 1)) (I 640) (ax_st 655 (gn (fr 6)) (x 3).toInt64 (x 4).toInt64 (x 5).toInt64 (ax_rs 665 644 0 ((gn (tg 6)) - 0) (ax_N1t 639 (tg 6) 644 (gn (tg 6)) (gc (tg 6)) (I 640) (gw_im (I 640) 665 666 (mp 6) (gn (fr 6)) (gn (tg 6)) (ax_st 666 (gn (fr 6)) (x 3).toInt64 (x 4).toInt64 (x 5).toInt64 (ax_irRL (ax_dgd L3 639 (40 * j + f) 7 I3) L3 639 mp fr tg gn gc (I 640))))))))).2)))))).2)) = Nd at *
                generalize (ax_rs 665 644 0 ((gn (tg 6)) - 0) (ax_N1t 639 (tg 6) 644 (gn (tg 6)) (gc (tg 6)) (I 640) (gw_im (I 640) 665 666 (mp 6) (gn (fr 6)) (gn (tg 6)) (ax_st 666 (gn (fr 6)) (x 3).toInt64 (x 4).toInt64 (x 5).toInt64 (ax_irRL (ax_dgd L3 639 (40 * j + f) 7 I3) L3 639 mp fr tg gn gc (I 640)))))) = N3 at *
                refine ay_PJ.mk K K2 ?_ ?_
                · cases cv with
                  | false => rw [if_neg (by decide), if_neg (by decide)]; decide
                  | true => rw [if_pos rfl, if_pos rfl]; exact p4 rfl k hk'
                · have a4 : ∀ z, z ≠ 6 → ax_irRI (ax_dgd L3 639 (40 * j + f) 7 I3) L3 639 mp fr tg gn gc (I 640) 639 z = I3 639 z := fun z hz => (t4 z hz).trans (congrFun (dg _ _ 639 (by omega)) z)
                  have a3 : ∀ q, q ≠ 639 → q ≠ 663 → ax_irRI (ax_dgd L3 639 (40 * j + f) 7 I3) L3 639 mp fr tg gn gc (I 640) q = I3 q := fun q b1 b2 => (ax_irRI_ne b1).trans (dg _ _ q b2)
                  have a5 : ∀ q, ((623 ≤ q ∧ q < 639) ∨ q = 669 ∨ q = 672) → ax_irRL (ax_dgd L3 639 (40 * j + f) 7 I3) L3 639 mp fr tg gn gc (I 640) q = L3 q := fun q hq => t3 q (by omega) (by omega) (by omega) (by omega) (by omega) (by omega) (by omega) (by omega) (by omega) (by omega) (by omega) (by omega)
                  cases cv with
                  | false =>
                    rw [if_neg (by decide), if_neg (by decide)]
                    exact rel I3 L3 _ _ J2' M2' (fun q b1 b2 => by rw [ax_u_ne b1]; exact a3 q b1 b2) (fun z hz => by rw [ax_u_nj hz]; exact a4 z hz) (fun q hq => (p5 q (by omega) (by omega) (by omega) (by omega) (by omega) (by omega) (by omega) (by omega) (by omega) (by omega) (by omega)).trans (a5 q hq))
                  | true =>
                    rw [if_pos rfl, if_pos rfl]
                    exact rel I3 L3 _ _ J2' M2' (fun q b1 b2 => by rw [ax_u_ne b1, ax_u_ne b1, ax_u_ne b1, ax_u_ne b1, ax_u_ne b1]; exact a3 q b1 b2) (fun z hz => by rw [ax_u_nj hz, ax_u_nj hz, ax_u_nj hz, ax_u_nj hz, ax_u_nj hz]; exact a4 z hz) (fun q hq => (p6 q (by omega) (by omega) (by omega) (by omega) (by omega) (by omega) (by omega) (by omega) (by omega) (by omega) (by omega)).trans (a5 q hq))
