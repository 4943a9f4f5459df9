/-! ===== pairs: step, normal ===== -/
set_option maxRecDepth 20000 in
theorem rl_4 (l : Launch) (D : va_G) (T : Nat → ClassId) (o : Nat) : law_P4 l D T o 1000 rl_Rel 0 639 := by
  intro x G I L h
  obtain ⟨r1, r2, -⟩ := id h
  cases hb : ax_rng (x 1) 6 with
  | false => exact ay_PI.mk (k_X10_step_bad l D T o 1000 G I L 0 (x 1) (x 2) r1.1 hb (by omega)) (k_X11_step_bad l D T o 1000 G I L 639 (x 1) (x 2) r1.2.1 (by omega) (by rw [← rl_rng6, hb]; rfl)) rfl h
  | true =>
    rw [rl_rng6] at hb
    obtain ⟨g, hg', eg⟩ := ax_in3_nat (h := 5) (by omega) hb
    have hg : g < 6 := by omega
    obtain ⟨gn, gc, hgn, hgc, hsn, hsc⟩ := rl_gngc r2
    rw [eg] at hb ⊢
    cases hk : ax_rng (x 2) (nI (gn g)) with
    | false =>
      have hk2 : ax_rng (x 2) (I (0 + 1 + 1) g) = false := by rw [show I (0 + 1 + 1) g = nI (gn g) from (hgn g hg).1]; exact hk
      refine ay_PI.mk (k_X10_step_out l D T o 1000 G I L 0 g (x 2) r1.1 hg hk2 (by omega)) (k_X11_step_bad l D T o 1000 G I L 639 (nI g) (x 2) r1.2.1 (by omega) ?_) rfl h
      rw [nI_clamp (by omega), show I (639 + 1) (14 * g) = nI (gn g) from (hsn g hg).1, hb]
      rw [rl_rngS _ (by have := (hsn g hg).2; omega)] at hk
      exact hk
    | true =>
      rw [rl_rngS _ (by have := (hsn g hg).2; omega)] at hk
      obtain ⟨k, hk', ek⟩ := ax_in3_natS (by have := (hsn g hg).2; omega) hk
      rw [ek]
      obtain ⟨n1, n2, n3⟩ := rl_nth (x := 597) r2 hsn hsc hg (by omega) L
      obtain ⟨Y, y1, y2, y3, y4⟩ := rl_N1 (t := 644) r2.2.1 hsn hsc hg (by omega) (by omega) (ax_nth I 1 597 g (gn g) (gc g) L)
      refine ay_PI.mk (k_X10_step l D T o 1000 G I L 0 g k (gn g) (gc g) r1.1 hg (hgn g hg).1 (hgn g hg).2 (hgc g hg).1 (hgc g hg).2 hk' (by omega))
        (k_X11_step l D T o 1000 G (ax_u I 597 2 (nI (gn g))) (ax_nth I 1 597 g (gn g) (gc g) L) 639 g k (gc g) (gn g) 9223372036854775808 (I 640) Y r1.2.1 (ax_u_ne (by omega)) hg (hsn g hg).1 (hsn g hg).2 (hsc g hg).1 (hsc g hg).2 hk' y1 (by omega)) ?_ ?_
      · show (ax_nth I 1 597 g (gn g) (gc g) L (597 + 2 + k) k).toInt32 = (Y 644 (7 * k)).toInt32
        have := (hsn g hg).2
        rw [n1 k k (by omega) (by omega), show 7 * k = 6 * k + k by omega, y2 k k (by omega) (by omega)]
      · refine h.work (fun q hq => by rw [ax_u_ne (by omega), ax_u_ne (by omega)]) (fun z hz => by rw [ax_u_nj (by omega), ax_u_ne (by omega)]) (fun q hq => ?_)
        rw [y3 q (by omega) (by omega) (by omega), n3 q (by omega)]
set_option maxRecDepth 20000 in
theorem rl_5 (l : Launch) (D : va_G) (T : Nat → ClassId) (o : Nat) : law_P5 l D T o 1000 rl_Rel 0 639 := by
  intro x G I L h
  obtain ⟨r1, r2, -⟩ := id h
  cases hb : ax_rng (x 1) 6 with
  | false => exact ay_PJ.mk (k_X10_normal_bad l D T o 1000 G I L 0 (x 1) (x 5) (x 2) (x 3) (x 4) r1.1 hb (by omega)) (k_X11_normal_bad l D T o 1000 G I L 639 (x 1) (x 2) (x 3) (x 4) (x 5) r1.2.1 (by omega) (by rw [← rl_rng6, hb]; rfl)) (by decide) h
  | true =>
    rw [rl_rng6] at hb
    obtain ⟨g, hg', eg⟩ := ax_in3_nat (h := 5) (by omega) hb
    have hg : g < 6 := by omega
    obtain ⟨gn, gc, hgn, hgc, hsn, hsc⟩ := rl_gngc r2
    rw [eg] at hb ⊢
    have hS1 : I (639 + 1) (14 * g) = nI (gn g) := (hsn g hg).1
    cases hk : ax_rng (x 5) (nI (gn g)) with
    | false =>
      refine ay_PJ.mk (k_X10_normal_out l D T o 1000 G I L 0 g gn gc (x 5) (x 2) (x 3) (x 4) r1.1 hgn hgc hg hk (by omega)) (k_X11_normal_bad l D T o 1000 G I L 639 (nI g) (x 2) (x 3) (x 4) (x 5) r1.2.1 (by omega) ?_) (by decide) h
      rw [nI_clamp (by omega), hS1, hb]
      rw [rl_rngS _ (by have := (hsn g hg).2; omega)] at hk
      have hk3 : ax_in3 (x 5).toInt64 0 (nI (gn g) - 1).toInt64 = false := hk
      rw [hk3]; rfl
    | true =>
      have hk2 := hk
      rw [rl_rngS _ (by have := (hsn g hg).2; omega)] at hk
      obtain ⟨k, hk', ek⟩ := ax_in3_natS (by have := (hsn g hg).2; omega) hk
      rw [ek] at hk ⊢
      cases he : (ax_iw (x 2).toInt64 (999 : Int32).toInt64 && ax_iw (x 3).toInt64 (999 : Int32).toInt64 && ax_iw (x 4).toInt64 (999 : Int32).toInt64) with
      | false =>
        refine ay_PJ.mk (k_X10_normal_el l D T o 1000 G I L 0 g k gn gc (x 2) (x 3) (x 4) r1.1 hgn hgc hg hk' he (by omega)) (k_X11_normal_bad l D T o 1000 G I L 639 (nI g) (x 2) (x 3) (x 4) (nI k) r1.2.1 (by omega) ?_) (by decide) h
        have hk3 : ax_in3 (nI k).toInt64 0 (nI (gn g) - 1).toInt64 = true := hk
        rw [nI_clamp (by omega), hS1, hb, hk3]
        exact he
      | true =>
        have hw3 := (hsn g hg).2
        obtain ⟨n1, n2, n3⟩ := rl_nth (x := 597) r2 hsn hsc hg (by omega) (ax_tl 621 (gn g) (x 2) (x 3) (x 4) L)
        obtain ⟨Y, y1, y2, y3, y4⟩ := rl_N1 (t := 644) r2.2.1 hsn hsc hg (by omega) (by omega) (ax_norL I L 0 g gn gc (x 2) (x 3) (x 4))
        obtain ⟨a1, a2, a3, -⟩ := mt_alike (a := 597) (q := 621) (r := 649) (t := 644) (w := gn g) (B := mt_N (I 640) gn gc g)
          (L2 := ax_st 649 (gn g) (x 2).toInt64 (x 3).toInt64 (x 4).toInt64 Y) (by omega) (by omega) (by omega) n1 (fun k j hk hj => by rw [rl_st_ne (by omega)]; exact y2 k j hk hj) y4 0 (gn g) (by omega) (fun j hj => by
            rw [n3 621 (by omega), rl_tl (by omega), rl_st (by omega), if_pos hj, if_pos hj]
            rcases (show j = 0 ∨ j = 1 ∨ j = 2 by omega) with rfl | rfl | rfl <;> rfl)
        refine ay_PJ.mk (k_X10_normal l D T o 1000 G I L 0 g k gn gc (x 2) (x 3) (x 4) r1.1 hgn hgc hg hk' he (by omega))
          (k_X11_normal l D T o 1000 G (ax_u I 597 2 (nI (gn g))) (ax_norL I L 0 g gn gc (x 2) (x 3) (x 4)) 639 g k (gc g) (gn g) 9223372036854775808 (x 2) (x 3) (x 4) (I 640) Y r1.2.1 (ax_u_ne (by omega)) hg (hsn g hg).1 (hsn g hg).2 (hsc g hg).1 (hsc g hg).2 hk' he y1 (by omega)) (a1 k hk') ?_
        refine h.work (fun q hq => by rw [ax_u_ne (by omega), ax_u_ne (by omega)]) (fun z hz => by rw [ax_u_nj (by omega), ax_u_ne (by omega)]) (fun q hq => ?_)
        rw [a3 q (by omega), rl_st_ne (by omega), y3 q (by omega) (by omega) (by omega)]
        exact (congrFun (rfl) _).trans ((a2 q (by omega)).trans ((n3 q (by omega)).trans (by unfold ax_tl; rw [ax_u_ne (by omega), ax_u_ne (by omega), ax_u_ne (by omega)])))
