/-! ===== pairs: rest ===== -/
theorem rl_re3 {j : Nat} {L : ax_L} : ∀ n q z, ax_re3 0 j n L q z = if q = 621 ∧ z < n then L (632 + 2 * j) z else L q z := by
  intro n
  induction n with
  | zero => intro q z; rw [if_neg (by omega)]; rfl
  | succ n ih =>
    intro q z
    show ax_u (ax_re3 0 j n L) 621 n (ax_re3 0 j n L (0 + (632 + 2 * j)) n) q z = _
    have e1 : ax_re3 0 j n L (0 + (632 + 2 * j)) n = L (632 + 2 * j) n := by rw [Nat.zero_add, ih, if_neg (by omega)]
    rw [e1]
    by_cases hq : q = 621
    · subst hq
      by_cases hz : z = n
      · subst hz; rw [ax_u_at, if_pos ⟨rfl, by omega⟩]
      · rw [ax_u_nj hz, ih]
        by_cases hz2 : z < n
        · rw [if_pos ⟨rfl, hz2⟩, if_pos ⟨rfl, by omega⟩]
        · rw [if_neg (fun y => hz2 y.2), if_neg (fun y => hz2 (by have := y.2; omega))]
    · rw [ax_u_ne hq, ih, if_neg (fun y => hq y.1), if_neg (fun y => hq y.1)]
set_option maxRecDepth 20000 in
theorem rl_32 (l : Launch) (D : va_G) (T : Nat → ClassId) (o : Nat) : law_P32 l D T o 1000 rl_Rel 0 639 := by
  intro x G I L h
  obtain ⟨r1, r2, r3, r4, r5, r6, r7⟩ := id h
  cases hb : ax_rng (x 1) 4 with
  | false => exact ay_PI.mk (k_X10_rest_bad l D T o 1000 G I L 0 (x 1) r1.1 hb (by omega)) (k_X11_rest_bad l D T o 1000 G I L 639 (x 1) r1.2.1 (by omega) (by rw [← rl_rng4]; exact hb)) rfl h
  | true =>
    rw [rl_rng4] at hb
    obtain ⟨j, hj', ej⟩ := ax_in3_nat (h := 3) (by omega) hb
    have hj : j < 4 := by omega
    rw [ej]
    have z1 : 0 + (631 + 2 * j) = 631 + 2 * j := by omega
    have z3 : 0 + (632 + 2 * j) = 632 + 2 * j := by omega
    rcases r7 j hj with ⟨t1, t2, t3⟩ | ⟨g, hg, t2, t3, t4, t5⟩ | ⟨u, hu, t2, t3, t4, t5⟩
    · have hbad : (decide (I (0 + (631 + 2 * j)) 0 = -1) && decide (I (0 + (631 + 2 * j)) 2 = -1)) = true := by rw [z1, t1, t2]; decide
      have K := k_X10_rest_no l D T o 1000 G I L 0 j r1.1 hj (Or.inl hbad) (by omega)
      rw [if_pos hbad] at K
      have hR := k_X11_rest_no l D T o 1000 G I L 639 j r1.2.1 hj (Or.inl (by show I 670 j < 0; rw [t3]; decide)) (by omega)
      rw [if_pos (show I (639 + 31) j < 0 by show I 670 j < 0; rw [t3]; decide)] at hR
      exact ay_PI.mk K hR rfl h
    · obtain ⟨gn, gc, hgn, hgc, hsn, hsc⟩ := rl_gngc r2
      have hw3 := (hsn g hg).2
      have K := k_X10_rest l D T o 1000 G I L 0 j g gn gc r1.1 hgn hgc hj (by rw [z1]; exact t2) hg (by omega)
      unfold ax_resv ax_resI ax_resL at K
      rw [z1, z3] at K
      obtain ⟨n1, n2, n3⟩ := rl_nth (x := 597) r2 hsn hsc hg (by omega) (ax_re3 0 j 3 L)
      have K2 : ax_Con l D T o yX10_rest cX10_rest 4 (some .int) 1000 0 0 [.ref 0, .int (nI j)] G I L (fun zz G' I' L' => zz = some (.int (ax_lgv (ax_rfo 597 621 (gn g) 0 (gn g) (ax_nth I 1 597 g (gn g) (gc g) (ax_re3 0 j 3 L))) 0)) ∧ G = G' ∧ ax_lgI (ax_u I 597 2 (nI (gn g))) (ax_rfo 597 621 (gn g) 0 (gn g) (ax_nth I 1 597 g (gn g) (gc g) (ax_re3 0 j 3 L))) 0 (631 + 2 * j) = I' ∧ ax_lgL (ax_rfo 597 621 (gn g) 0 (gn g) (ax_nth I 1 597 g (gn g) (gc g) (ax_re3 0 j 3 L))) 0 (632 + 2 * j) = L') := K
      clear K
      have ALK : ∀ L2, mt_at L2 644 (mt_N (I 640) gn gc g) → _ := fun L2 h2 => mt_alike (a := 597) (q := 621) (r := 655) (t := 644) (w := gn g) (B := mt_N (I 640) gn gc g) (L1 := ax_nth I 1 597 g (gn g) (gc g) (ax_re3 0 j 3 L)) (L2 := L2) (by omega) (by omega) (by omega) n1 h2 ((rl_N1 (t := 644) r2.2.1 hsn hsc hg (by omega) (by omega) L).choose_spec.2.2.2) 0 (gn g) (by omega)
      have i621 : ∀ y, y < 3 → ax_nth I 1 597 g (gn g) (gc g) (ax_re3 0 j 3 L) 621 y = L 672 (3 * j + y) := fun y hy => by
        rw [n3 621 (by omega), rl_re3, if_pos ⟨rfl, hy⟩, t5 y hy]
      generalize hM : ax_rfo 597 621 (gn g) 0 (gn g) (ax_nth I 1 597 g (gn g) (gc g) (ax_re3 0 j 3 L)) = M at K2 ALK
      obtain ⟨Y, y1, y2, y3, y4⟩ := rl_N1 (t := 644) r2.2.1 hsn hsc hg (by omega) (by omega) (ax_lgL M 0 (632 + 2 * j))
      have lg : ∀ q, q ≠ 632 + 2 * j → ax_lgL M 0 (632 + 2 * j) q = M q := fun q hq => by
        unfold ax_lgL; split
        · exact ax_cp_ne hq
        · rfl
      have jI : ∀ J : ax_I, ∀ q, q ≠ 631 + 2 * j → ax_lgI J M 0 (631 + 2 * j) q = J q := fun J q hq => by
        unfold ax_lgI; split
        · rw [ax_u_ne hq, ax_u_ne hq, ax_u_ne hq]
        · rfl
      have h2 : mt_at (ax_st 655 (gn g) (Y 672 (3 * j)) (Y 672 (3 * j + 1)) (Y 672 (3 * j + 2)) Y) 644 (mt_N (I 640) gn gc g) := fun k j hk hj => by rw [rl_st_ne (by omega)]; exact y2 k j hk hj
      have mq : ∀ q, q ≠ 621 → (q < 599 ∨ 605 < q) → M q = L q := fun q h1 h2' => by
        obtain ⟨-, a2, -, -⟩ := mt_alike (a := 597) (q := 621) (r := 655) (t := 644) (w := gn g) (B := mt_N (I 640) gn gc g) (L1 := ax_nth I 1 597 g (gn g) (gc g) (ax_re3 0 j 3 L)) (L2 := ax_u (ax_u (ax_u (ax_st 655 (gn g) 0 0 0 Y) 655 0 (L 672 (3 * j))) 655 1 (L 672 (3 * j + 1))) 655 2 (L 672 (3 * j + 2))) (by omega) (by omega) (by omega) n1 (fun k j hk hj => by rw [ax_u_ne (by omega), ax_u_ne (by omega), ax_u_ne (by omega), rl_st_ne (by omega)]; exact y2 k j hk hj) y4 0 (gn g) (by omega) (fun y hy => by
          rw [i621 y (by omega)]
          rcases (show y = 0 ∨ y = 1 ∨ y = 2 by omega) with rfl | rfl | rfl
          · rw [ax_u_nj (by omega), ax_u_nj (by omega), ax_u_at]; rfl
          · rw [ax_u_nj (by omega), ax_u_at]
          · rw [ax_u_at])
        rw [← hM, a2 q h1, n3 q (by omega)]
        funext z
        rw [rl_re3, if_neg (fun y => h1 y.1)]
      have y672 : ∀ y, Y 672 y = L 672 y := fun y => by rw [y3 672 (by omega) (by omega) (by omega), lg 672 (by omega), mq 672 (by omega) (by omega)]
      obtain ⟨a1, a2, a3, a4⟩ := ALK _ h2 (fun y hy => by
        rw [i621 y (by omega), rl_st (by omega), if_pos hy]
        rcases (show y = 0 ∨ y = 1 ∨ y = 2 by omega) with rfl | rfl | rfl
        · exact (y672 _).symm
        · exact (y672 _).symm
        · exact (y672 _).symm)
      have R := k_X11_rest l D T o 1000 G (ax_lgI (ax_u I 597 2 (nI (gn g))) M 0 (631 + 2 * j)) (ax_lgL M 0 (632 + 2 * j)) 639 j g (gc g) (gn g) 9223372036854775808 (I 640) Y r1.2.1 (by rw [jI _ _ (by omega), ax_u_ne (by omega)]) hj (by rw [jI _ _ (by omega), ax_u_ne (by omega)]; exact t4) hg (hsn g hg).1 (hsn g hg).2 (hsc g hg).1 (hsc g hg).2 y1 (by omega)
      have R2 : ax_rs (639 + 16) (639 + 5) 0 (gn g) (ax_st (639 + 16) (gn g) (Y (639 + 33) (3 * j)) (Y (639 + 33) (3 * j + 1)) (Y (639 + 33) (3 * j + 2)) Y) = ax_rs 655 644 0 (gn g) (ax_st 655 (gn g) (Y 672 (3 * j)) (Y 672 (3 * j + 1)) (Y 672 (3 * j + 2)) Y) := rfl
      rw [R2] at R
      have zq : ∀ q, q ≠ 655 → ax_rs 655 644 0 (gn g) (ax_st 655 (gn g) (Y 672 (3 * j)) (Y 672 (3 * j + 1)) (Y 672 (3 * j + 2)) Y) q = Y q := fun q hq => by rw [a3 q hq, rl_st_ne hq]
      generalize ax_rs 655 644 0 (gn g) (ax_st 655 (gn g) (Y 672 (3 * j)) (Y 672 (3 * j + 1)) (Y 672 (3 * j + 2)) Y) = Z at R a1 a3 zq
      have E : ∀ y, y < 3 → (if y < gn g then Z (639 + 16) y else Z (639 + 33) (3 * j + y)) = M 621 y := fun y hy => by
        by_cases c : y < gn g
        · rw [if_pos c]; exact (a1 y c).symm
        · rw [if_neg c, zq (639 + 33) (by omega), y672]
          rw [a4 y (by omega), i621 y hy]
      have E0 : (if 0 < gn g then Z (639 + 16) 0 else Z (639 + 33) (3 * j)) = M 621 0 := E 0 (by omega)
      rw [E0, E 1 (by omega), E 2 (by omega)] at R
      have hW : rl_Rel G (ax_u I 597 2 (nI (gn g))) L := h.work (fun q hq => ax_u_ne (by omega)) (fun z hz => by rw [ax_u_ne (by omega)]) (fun _ _ => rfl)
      have F := hW.down (M := M) (N := Z) (a := M 621 0) (b := M 621 1) (c := M 621 2) hj hg (by rw [ax_u_ne (by omega)]; exact t2) (by rw [ax_u_ne (by omega)]; exact t3) (by rw [ax_u_ne (by omega)]; exact t4) (fun q a b => mq q (by omega) (by omega)) (mq _ (by omega) (by omega)) (mq _ (by omega) (by omega)) ⟨rfl, rfl, rfl⟩
        (fun q a b => by rw [zq q (by omega), y3 q (by omega) (by omega) (by omega)]) (by rw [zq _ (by omega), y3 _ (by omega) (by omega) (by omega)]) (by rw [zq _ (by omega), y3 _ (by omega) (by omega) (by omega)])
      exact ay_PI.mk K2 R F.1 (F.2.work (fun q hq => ax_u_ne (by omega)) (fun z hz => by rw [ax_u_nj (by omega)]) (fun _ _ => rfl))
    · have hbad : (decide (I (0 + (631 + 2 * j)) 0 = -1) && decide (I (0 + (631 + 2 * j)) 2 = -1)) = true ∨ ax_rng (I (0 + (631 + 2 * j)) 0) 6 = false := Or.inr (by rw [z1, t2]; decide)
      have hno : ¬ (decide (I (0 + (631 + 2 * j)) 0 = -1) && decide (I (0 + (631 + 2 * j)) 2 = -1)) = true := by
        rw [z1, t3, Bool.and_eq_true, decide_eq_true_eq, decide_eq_true_eq]; exact fun z => rl_m1 (by omega) z.2
      have K := k_X10_rest_no l D T o 1000 G I L 0 j r1.1 hj hbad (by omega)
      rw [if_neg hno] at K
      have h10 : nI 10 ≤ I 670 j := by rw [t4]; exact nI_le (by omega) (by omega)
      have hR := k_X11_rest_no l D T o 1000 G I L 639 j r1.2.1 hj (Or.inr h10) (by omega)
      rw [if_neg (show ¬ I (639 + 31) j < 0 by show ¬ I 670 j < 0; rw [t4]; exact nI_pos (by omega))] at hR
      exact ay_PI.mk K hR rfl h
