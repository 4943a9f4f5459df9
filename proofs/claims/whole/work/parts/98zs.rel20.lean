/-! ===== pairs: image ===== -/
theorem rl_im {J : ax_I} {S : Nat → Int32} {k x z : Nat} {E F : Nat → Int64} (hx : x ≤ 3) (hz : z < 3) (ht : ∀ i, i < 9 → J 7 (9 * k + i) = S (84 + 11 * k + 2 + i)) (h1 : ∀ i, i < 3 → i < x → E i = F i) (h2 : ∀ i, i < 3 → ¬ i < x → E i = 0) :
    E 0 * (J 7 (9 * k + 3 * 0 + z)).toInt64 + E 1 * (J 7 (9 * k + 3 * 1 + z)).toInt64 + E 2 * (J 7 (9 * k + 3 * 2 + z)).toInt64 = ax_im S F k z x := by
  have e : ∀ i, i < 3 → E i * (J 7 (9 * k + 3 * i + z)).toInt64 = if i < x then F i * (S (84 + 11 * k + 2 + 3 * i + z)).toInt64 else 0 := fun i hi => by
    have t1 := ht (3 * i + z) (by omega)
    rw [← Nat.add_assoc, ← Nat.add_assoc] at t1
    rw [t1]
    by_cases c : i < x
    · rw [if_pos c, h1 i hi c]
    · rw [if_neg c, h2 i hi c]; exact Int64.zero_mul
  rw [e 0 (by omega), e 1 (by omega), e 2 (by omega)]
  rcases (show x = 0 ∨ x = 1 ∨ x = 2 ∨ x = 3 by omega) with e0 | e0 | e0 | e0
  · rw [e0]; rfl
  · rw [e0]
    show F 0 * (S (84 + 11 * k + 2 + 3 * 0 + z)).toInt64 + 0 + 0 = 0 + F 0 * (S (84 + 11 * k + 2 + 3 * 0 + z)).toInt64
    rw [Int64.add_zero, Int64.add_zero, Int64.zero_add]
  · rw [e0]
    show F 0 * (S (84 + 11 * k + 2 + 3 * 0 + z)).toInt64 + F 1 * (S (84 + 11 * k + 2 + 3 * 1 + z)).toInt64 + 0 = 0 + F 0 * (S (84 + 11 * k + 2 + 3 * 0 + z)).toInt64 + F 1 * (S (84 + 11 * k + 2 + 3 * 1 + z)).toInt64
    rw [Int64.add_zero, Int64.zero_add]
  · rw [e0]
    show F 0 * (S (84 + 11 * k + 2 + 3 * 0 + z)).toInt64 + F 1 * (S (84 + 11 * k + 2 + 3 * 1 + z)).toInt64 + F 2 * (S (84 + 11 * k + 2 + 3 * 2 + z)).toInt64 = 0 + F 0 * (S (84 + 11 * k + 2 + 3 * 0 + z)).toInt64 + F 1 * (S (84 + 11 * k + 2 + 3 * 1 + z)).toInt64 + F 2 * (S (84 + 11 * k + 2 + 3 * 2 + z)).toInt64
    rw [Int64.zero_add]
set_option maxRecDepth 20000 in
theorem rl_wellL {J : ax_I} {S : Nat → Int32} {gn gc : Nat → Nat} {k p r x y : Nat} {Lc : ax_L} (hSt : rl_St 1 J S) (hsn : ∀ g, g < 6 → S (14 * g) = nI (gn g) ∧ gn g ≤ 3) (hsc : ∀ g, g < 6 → S (14 * g + 1) = nI (gc g) ∧ gc g ≤ 4) (hM : ax_Mp S k p r x y) (ht : ∀ i, i < 9 → J 7 (9 * k + i) = S (84 + 11 * k + 2 + i)) :
    mt_lat (ax_ldL J Lc 483 1 k p r (gn p) (gc p) (gn r) (gc r)) 493 (mt_N S gn gc r) := by
  obtain ⟨m1, m2, m3, -⟩ := hM
  have hS2 : rl_St 1 (ax_u J 484 2 (nI (gn p))) S := hSt.keep (by rw [ax_u_ne (by omega)]) (fun q h1 h2 => ax_u_ne (by omega)) (fun _ _ => rfl)
  obtain ⟨b1, b2, b3⟩ := rl_nth (x := 493) hS2 hsn hsc m3 (by omega) (ax_nth J 1 484 p (gn p) (gc p) Lc)
  obtain ⟨t1, t2⟩ := rl_N1t (t := 648) hSt.2.1 hsn hsc m3 (by omega) (by omega)
  obtain ⟨t3, t4, t5⟩ := t2 (fun _ _ => 0)
  obtain ⟨c1, c2, c3⟩ := rl_rrs (J := ax_u (ax_u J 484 2 (nI (gn p))) 493 2 (nI (gn r))) (S := S) (B := mt_N S gn gc r) (k := k) (p := p) (x := gn p) (v := gn r) (c := gc p) (hsn p m2).2 (hsn r m3).2 t5 (fun k' j' h1 h2 => b2.1.2.2.2.2 k' j' h1 h2) (fun r' i h1 h2 => by
      have := (hsc p m2).2
      have h3 := hSt.1.2.1 p r' i m2 (by omega) h2 (by rw [(hsc p m2).1, nI_clamp (by omega)]; exact h1)
      rw [(hsn p m2).1, nI_clamp (by have := (hsn p m2).2; omega)] at h3
      rw [ax_u_ne (by omega), ax_u_ne (by omega)]; exact h3) (fun i hi => by rw [ax_u_ne (by omega), ax_u_ne (by omega)]; exact ht i hi)
    (gc p) 0 (ax_nth (ax_u J 484 2 (nI (gn p))) 1 493 r (gn r) (gc r) (ax_nth J 1 484 p (gn p) (gc p) Lc)) (ax_N1t 639 r 648 (gn r) (gc r) S (fun _ _ => 0)) (by omega) b1 t3
  exact fun k' j' h1 h2 => by
    show (ax_rrs (ax_u (ax_u J 484 2 (nI (gn p))) 493 2 (nI (gn r))) 1 k 493 538 539 (gn r) p (gc p) 0 (ax_nth (ax_u J 484 2 (nI (gn p))) 1 493 r (gn r) (gc r) (ax_nth J 1 484 p (gn p) (gc p) Lc))).2 (493 + 2 + k') j' = _
    rw [c2 _ (by omega) (by omega)]; exact b1 k' j' h1 h2
set_option maxRecDepth 20000 in
theorem rl_14 (l : Launch) (D : va_G) (T : Nat → ClassId) (o : Nat) : law_P14 l D T o 1000 rl_Rel 0 639 := by
  intro x G I L h
  obtain ⟨r1, r2, -⟩ := id h
  cases hf : (ax_in3 (x 1).toInt64 0 7 && !decide (I (1 + 4) (x 1).toNatClampNeg = -1)) with
  | false => exact ay_PJ.mk (k_X10_image_bad l D T o 1000 G I L 0 (x 1) (x 5) (x 2) (x 3) (x 4) r1.1 hf (by omega)) (k_X11_image_no l D T o 1000 G I L 639 (x 1) (x 2) (x 3) (x 4) (x 5) r1.2.1 (by rw [← rl_isMap r2]; exact hf) (by omega)) (by decide) h
  | true =>
    obtain ⟨j, p, r, a, b, ej, hM, e1, e2, e3, -⟩ := rl_mapAt r2 hf
    obtain ⟨m1, m2, m3, m4, m5, m6, m7, m8, m9⟩ := id hM
    obtain ⟨gn, gc, hgn, hgc, hsn, hsc⟩ := rl_gngc r2
    have ea : gn p = a := (nI_eq (by have := (hsn p m2).2; omega) (by omega)).mp ((hsn p m2).1.symm.trans m8)
    have eb : gn r = b := (nI_eq (by have := (hsn r m3).2; omega) (by omega)).mp ((hsn r m3).1.symm.trans m9)
    subst ea eb
    rw [ej]
    cases he : (ax_iw (x 2).toInt64 (999 : Int32).toInt64 && ax_iw (x 3).toInt64 (999 : Int32).toInt64 && ax_iw (x 4).toInt64 (999 : Int32).toInt64) with
    | false =>
      have he' : (ax_in3 (x 2).toInt64 (-999) 999 && ax_in3 (x 3).toInt64 (-999) 999 && ax_in3 (x 4).toInt64 (-999) 999) = false := he
      exact ay_PJ.mk (k_X10_image_el l D T o 1000 G I L 0 j p r (x 5) (x 2) (x 3) (x 4) gn gc r1.1 hgn hgc m1 e1 m2 e2 m3 he (by omega)) (k_X11_image_bad l D T o 1000 G I L 639 j p r (gn p) (gn r) (x 2) (x 3) (x 4) (x 5) (I 640) r1.2.1 rfl m1 m2 m3 m4 m5 m6 m7 m8 m9 (by rw [he', Bool.false_and]) (by omega)) (by decide) h
    | true =>
      have he' : (ax_in3 (x 2).toInt64 (-999) 999 && ax_in3 (x 3).toInt64 (-999) 999 && ax_in3 (x 4).toInt64 (-999) 999) = true := he
      cases hk : ax_rng (x 5) (nI (gn r)) with
      | false =>
        have hk2 := hk
        rw [rl_rngS _ (by omega)] at hk2
        have hk3 : ax_in3 (x 5).toInt64 0 (nI (gn r) - 1).toInt64 = false := hk2
        exact ay_PJ.mk (k_X10_image_out l D T o 1000 G I L 0 j p r (x 5) (x 2) (x 3) (x 4) gn gc r1.1 hgn hgc m1 e1 m2 e2 m3 he hk (by omega)) (k_X11_image_bad l D T o 1000 G I L 639 j p r (gn p) (gn r) (x 2) (x 3) (x 4) (x 5) (I 640) r1.2.1 rfl m1 m2 m3 m4 m5 m6 m7 m8 m9 (by rw [hk3, Bool.and_false]) (by omega)) (by decide) h
      | true =>
        rw [rl_rngS _ (by omega)] at hk
        obtain ⟨k, hk', ek⟩ := ax_in3_natS (by omega) hk
        rw [ek]
        have jI : ∀ q, q ≠ 484 → q ≠ 493 → ax_ldI I 483 (gn p) (gn r) q = I q := fun q h1 h2 => by
          show ax_u (ax_u I 484 2 _) 493 2 _ q = _
          rw [ax_u_ne h2, ax_u_ne h1]
        have WL := fun Lr => rl_well (Lc := L) (Lr := Lr) r2 hsn hsc hM e3
        have W2 := rl_wellL (Lc := L) r2 hsn hsc hM e3
        cases hw : ax_ldv I L 483 1 j p r (gn p) (gc p) (gn r) (gc r) with
        | false =>
          obtain ⟨Y, y1, y2, y3, y4⟩ := rl_N1 (t := 648) r2.2.1 hsn hsc m3 (by omega) (by omega) (ax_ldL I L 483 1 j p r (gn p) (gc p) (gn r) (gc r))
          obtain ⟨fu, hfu⟩ := ax_N1t_spec (rl_N1t (t := 648) r2.2.1 hsn hsc m3 (by omega) (by omega)).1 (ax_ldL I L 483 1 j p r (gn p) (gc p) (gn r) (gc r))
          obtain ⟨w1, w2, w3⟩ := WL (ax_ldL I L 483 1 j p r (gn p) (gc p) (gn r) (gc r))
          have eY : ax_wlf (I 640) 639 j p (gn p) (gn r) (gc p) 0 Y = ax_wl 639 j p r (gn p) (gn r) (gc p) (gc r) (I 640) (ax_ldL I L 483 1 j p r (gn p) (gc p) (gn r) (gc r)) := by
            unfold ax_wl; rw [rl_N1u hfu y1]
          refine ay_PJ.mk (k_X10_image_no l D T o 1000 G I L 0 j p r k (x 2) (x 3) (x 4) gn gc r1.1 hgn hgc m1 e1 m2 e2 m3 he hk' hw (by omega))
            (k_X11_image_state l D T o 1000 G (ax_ldI I 483 (gn p) (gn r)) (ax_ldL I L 483 1 j p r (gn p) (gc p) (gn r) (gc r)) 639 j p r (gn p) (gn r) (gc p) (gc r) 9223372036854775808 k (x 2) (x 3) (x 4) (I 640) Y _ r1.2.1 (jI _ (by omega) (by omega)) m1 m2 m3 m4 m5 m6 m7 m8 m9 (hsc p m2).1 (hsc p m2).2 (hsc r m3).1 (hsc r m3).2 hk' he' y1 eY (w1.symm.trans hw) (by omega)) (by decide) ?_
          refine h.work2 (fun q hq => by rw [ax_u_ne (by omega)]; exact jI q (by omega) (by omega)) (fun z hz => by rw [ax_u_nj (by omega), jI 639 (by omega) (by omega)]) (fun q hq => ?_)
          exact (w3 q (by omega) (by omega) (by omega) (by omega)).trans (w2 q (by omega))
        | true =>
          obtain ⟨w1, w2, w3⟩ := WL (ax_imL I L 0 j p r (x 2) (x 3) (x 4) gn gc)
          obtain ⟨Y, y1, y2, y3, y4⟩ := rl_N1 (t := 648) r2.2.1 hsn hsc m3 (by omega) (by omega) (ax_imL I L 0 j p r (x 2) (x 3) (x 4) gn gc)
          obtain ⟨fu, hfu⟩ := ax_N1t_spec (rl_N1t (t := 648) r2.2.1 hsn hsc m3 (by omega) (by omega)).1 (ax_imL I L 0 j p r (x 2) (x 3) (x 4) gn gc)
          have eY : ax_wlf (I 640) 639 j p (gn p) (gn r) (gc p) 0 Y = ax_wl 639 j p r (gn p) (gn r) (gc p) (gc r) (I 640) (ax_imL I L 0 j p r (x 2) (x 3) (x 4) gn gc) := by
            unfold ax_wl; rw [rl_N1u hfu y1]
          obtain ⟨N2, v1, v2, v3, v4⟩ := rl_N1 (t := 644) r2.2.1 hsn hsc m3 (by omega) (by omega) (ax_wl 639 j p r (gn p) (gn r) (gc p) (gc r) (I 640) (ax_imL I L 0 j p r (x 2) (x 3) (x 4) gn gc)).2
          have K := k_X10_image l D T o 1000 G I L 0 j p r k (x 2) (x 3) (x 4) gn gc r1.1 hgn hgc m1 e1 m2 e2 m3 he hk' hw (by omega)
          have R := k_X11_image l D T o 1000 G (ax_ldI I 483 (gn p) (gn r)) (ax_imL I L 0 j p r (x 2) (x 3) (x 4) gn gc) 639 j p r (gn p) (gn r) (gc p) (gc r) 9223372036854775808 k (x 2) (x 3) (x 4) (I 640) Y N2 _ r1.2.1 (jI _ (by omega) (by omega)) m1 m2 m3 m4 m5 m6 m7 m8 m9 (hsc p m2).1 (hsc p m2).2 (hsc r m3).1 (hsc r m3).2 hk' he' y1 eY (w1.symm.trans hw) v1 (by omega)
          have hF : ∀ i, i < 3 → ax_tl 621 (gn p) (x 2) (x 3) (x 4) (ax_ldL I L 483 1 j p r (gn p) (gc p) (gn r) (gc r)) 621 i = ax_st 650 (gn p) (x 2).toInt64 (x 3).toInt64 (x 4).toInt64 N2 650 i ∧ (¬ i < gn p → ax_tl 621 (gn p) (x 2) (x 3) (x 4) (ax_ldL I L 483 1 j p r (gn p) (gc p) (gn r) (gc r)) 621 i = 0) := fun i hi => by
            rw [rl_tl hi, rl_st hi]
            by_cases c : i < gn p
            · rw [if_pos c, if_pos c]
              refine ⟨?_, fun z => absurd c z⟩
              rcases (show i = 0 ∨ i = 1 ∨ i = 2 by omega) with rfl | rfl | rfl <;> rfl
            · rw [if_neg c, if_neg c]; exact ⟨rfl, fun _ => rfl⟩
          have q6 : ∀ q, q ≠ 650 → ax_st 650 (gn p) (x 2).toInt64 (x 3).toInt64 (x 4).toInt64 N2 q = N2 q := fun q h => rl_st_ne h
          have tlq : ∀ q, q ≠ 621 → ax_tl 621 (gn p) (x 2) (x 3) (x 4) (ax_ldL I L 483 1 j p r (gn p) (gc p) (gn r) (gc r)) q = ax_ldL I L 483 1 j p r (gn p) (gc p) (gn r) (gc r) q := fun q hq => by unfold ax_tl; rw [ax_u_ne hq, ax_u_ne hq, ax_u_ne hq]
          generalize hL6 : ax_st 650 (gn p) (x 2).toInt64 (x 3).toInt64 (x 4).toInt64 N2 = L6 at hF q6
          have R2 : ax_st (639 + 11) (gn p) (x 2).toInt64 (x 3).toInt64 (x 4).toInt64 N2 = L6 := hL6
          rw [R2] at R
          obtain ⟨a1, a2, a3, a4⟩ := mt_alike (a := 493) (q := 622) (r := 649) (t := 644) (w := gn r) (B := mt_N (I 640) gn gc r)
            (L1 := ax_apt (ax_ldI I 483 (gn p) (gn r)) 7 (9 * j) 621 622 (ax_tl 621 (gn p) (x 2) (x 3) (x 4) (ax_ldL I L 483 1 j p r (gn p) (gc p) (gn r) (gc r))) 3)
            (L2 := ax_st 649 (gn r) (ax_im (I 640) (L6 650) j 0 (gn p)) (ax_im (I 640) (L6 650) j 1 (gn p)) (ax_im (I 640) (L6 650) j 2 (gn p)) L6) (by omega) (by omega) (by omega)
            (fun k' j' h1 h2 => by rw [rl_apt, if_neg (by omega), tlq _ (by omega)]; exact W2 k' j' h1 h2)
            (fun k' j' h1 h2 => by rw [rl_st_ne (by omega), q6 _ (by omega)]; exact v2 k' j' h1 h2) v4 0 (gn r) (by omega) (fun z hz => by
              rw [rl_apt, if_pos ⟨rfl, by omega⟩, rl_im (S := I 640) (F := L6 650) (x := gn p) (by omega) (by omega) (fun i hi => by rw [jI 7 (by omega) (by omega)]; exact e3 i hi) (fun i hi _ => (hF i hi).1) (fun i hi c => (hF i hi).2 c), rl_st (by omega), if_pos hz]
              rcases (show z = 0 ∨ z = 1 ∨ z = 2 by omega) with rfl | rfl | rfl <;> rfl)
          refine ay_PJ.mk K R (a1 k hk') ?_
          refine h.work2 (fun q hq => by rw [ax_u_ne (by omega)]; exact jI q (by omega) (by omega)) (fun z hz => by rw [ax_u_nj (by omega), jI 639 (by omega) (by omega)]) (fun q hq => ?_)
          refine (a3 q (by omega)).trans ((rl_st_ne (by omega)).trans ((q6 q (by omega)).trans ((v3 q (by omega) (by omega) (by omega)).trans ((w3 q (by omega) (by omega) (by omega) (by omega)).trans ?_))))
          refine (a2 q (by omega)).trans ?_
          funext z
          rw [rl_apt, if_neg (by omega), tlq q (by omega), w2 q (by omega)]
