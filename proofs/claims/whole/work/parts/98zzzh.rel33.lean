/-! ===== pairs: exact ===== -/
theorem rl_Rel.work3 {G : ax_G} {I J : ax_I} {L M : ax_L} (h : rl_Rel G I L) (hJ : ∀ q, (q < 361 ∨ (623 ≤ q ∧ q ≠ 639)) → J q = I q) (hj : ∀ z, (z = 3 ∨ z = 4 ∨ z = 29) → J 639 z = I 639 z) (hM : ∀ q, ((623 ≤ q ∧ q < 639) ∨ q = 669 ∨ q = 672) → M q = L q) : rl_Rel G J M :=
  h.keep (by rw [hJ 0 (by omega)]) (fun q _ _ => hJ q (by omega)) (by rw [hJ 311 (by omega)]) (hJ 312 (by omega)) (fun q _ _ => hJ q (by omega)) (hj 3 (by omega)) (hj 4 (by omega)) (hj 29 (by omega)) (fun q _ _ => hJ q (by omega)) (hJ 657 (by omega)) (fun q _ _ => hJ q (by omega)) (fun q h1 h2 => hM q (by omega)) (hM 669 (by omega)) (hM 672 (by omega))
theorem rl_St.far {b : Nat} {I J : ax_I} {S : Nat → Int32} (h : rl_St b I S) (hJ : ∀ q, q < b + 14 → J q = I q) : rl_St b J S :=
  h.keep (by rw [hJ b (by omega)]) (fun q _ h2 => hJ q h2) (fun _ _ => rfl)
theorem ax_ldI_ne {I : ax_I} {a n v q : Nat} (h : q ≠ a + 1 ∧ q ≠ a + 10) : ax_ldI I a n v q = I q := by
  show ax_u (ax_u I (a + 1) 2 _) (a + 10) 2 _ q = _
  rw [ax_u_ne h.2, ax_u_ne h.1]
theorem ax_woI_ne {I : ax_I} {a n v q : Nat} (h : q ≠ a + 19 ∧ q ≠ a + 28 ∧ q ≠ a + 37) : ax_woI I a n v q = I q := by
  show ax_u (ax_u (ax_u I (a + 37) 2 _) (a + 19) 2 _) (a + 28) 2 _ q = _
  rw [ax_u_ne h.2.1, ax_u_ne h.1, ax_u_ne h.2.2]
set_option maxRecDepth 20000 in
theorem rl_17 (l : Launch) (D : va_G) (T : Nat → ClassId) (o : Nat) : law_P17 l D T o 1000 rl_Rel 0 639 := by
  intro x G I L h
  obtain ⟨r1, r2, -⟩ := id h
  by_cases hb : (ax_in3 (x 1).toInt64 0 7 && !decide (I (1 + 4) (x 1).toNatClampNeg = -1)) = true ∧ (ax_in3 (x 2).toInt64 0 7 && !decide (I (1 + 4) (x 2).toNatClampNeg = -1)) = true
  case neg =>
    have hb1 := rl_ff hb
    refine ay_PI.mk (k_X10_exact_bad l D T o 1000 G I L 0 (x 1) (x 2) r1.1 hb1 (by omega)) (k_X11_exact_bad l D T o 1000 G I L 639 (x 1) (x 2) r1.2.1 (by omega) ?_) rfl h
    have e1 : (ax_in3 (x 1).toInt64 0 7 && !decide (I (639 + 1) (84 + 11 * (x 1).toNatClampNeg) < 0)) = (ax_in3 (x 1).toInt64 0 7 && !decide (I (1 + 4) (x 1).toNatClampNeg = -1)) := (rl_isMap r2 (x 1)).symm
    have e2 : (ax_in3 (x 2).toInt64 0 7 && !decide (I (639 + 1) (84 + 11 * (x 2).toNatClampNeg) < 0)) = (ax_in3 (x 2).toInt64 0 7 && !decide (I (1 + 4) (x 2).toNatClampNeg = -1)) := (rl_isMap r2 (x 2)).symm
    rw [e1, e2]
    rcases hb1 with e | e
    · rw [e]; rfl
    · rw [e, Bool.and_false]
  obtain ⟨hf, hf2⟩ := hb
  obtain ⟨gn, gc, hgn, hgc, hsn, hsc⟩ := rl_gngc r2
  obtain ⟨j, p, r, a, b, ej, hM, e1, e2, e3, -⟩ := rl_mapAt r2 hf
  obtain ⟨m1, m2, m3, m4, m5, m6, m7, m8, m9⟩ := id hM
  have ea : gn p = a := (nI_eq (by have := (hsn p m2).2; omega) (by omega)).mp ((hsn p m2).1.symm.trans m8)
  have eb : gn r = b := (nI_eq (by have := (hsn r m3).2; omega) (by omega)).mp ((hsn r m3).1.symm.trans m9)
  subst ea eb
  obtain ⟨i, u, w, a, b, ei, hM', f1, f2, f3, -⟩ := rl_mapAt r2 hf2
  obtain ⟨n1, n2, n3, n4, n5, n6, n7, n8, n9⟩ := id hM'
  have ea : gn u = a := (nI_eq (by have := (hsn u n2).2; omega) (by omega)).mp ((hsn u n2).1.symm.trans n8)
  have eb : gn w = b := (nI_eq (by have := (hsn w n3).2; omega) (by omega)).mp ((hsn w n3).1.symm.trans n9)
  subst ea eb
  rw [ej, ei]
  have K := k_X10_exact l D T o 1000 G I L 0 j p r i u w gn gc r1.1 hgn hgc m1 e1 m2 e2 m3 n1 f1 n2 f2 n3 (by omega)
  -- loads
  have St1 : rl_St 1 (ax_ldI I 483 (gn p) (gn r)) (I 640) := r2.far (fun q hq => ax_ldI_ne (by omega))
  have jI1 : ∀ q, q ≠ 484 → q ≠ 493 → ax_ldI I 483 (gn p) (gn r) q = I q := fun q h1 h2 => ax_ldI_ne ⟨h1, h2⟩
  have WL := fun Lr => rl_wellA (aa := 483) (by omega) (Lc := L) (Lr := Lr) r2 hsn hsc hM e3
  have WLt := rl_wellLA (aa := 483) (by omega) (Lc := L) r2 hsn hsc hM e3
  have WM := fun Lr => rl_wellA (aa := 540) (by omega) (Lc := ax_ldL I L 483 1 j p r (gn p) (gc p) (gn r) (gc r)) (Lr := Lr) St1 hsn hsc hM' (fun i hi => by rw [jI1 7 (by omega) (by omega)]; exact f3 i hi)
  have WMt := rl_wellLA (aa := 540) (by omega) (Lc := ax_ldL I L 483 1 j p r (gn p) (gc p) (gn r) (gc r)) St1 hsn hsc hM' (fun i hi => by rw [jI1 7 (by omega) (by omega)]; exact f3 i hi)
  have eI1 : ax_exI I L 0 j p r i u w gn gc = if ax_ldv I L 483 1 j p r (gn p) (gc p) (gn r) (gc r) = true then (if ax_ldv (ax_ldI I 483 (gn p) (gn r)) (ax_ldL I L 483 1 j p r (gn p) (gc p) (gn r) (gc r)) 540 1 i u w (gn u) (gc u) (gn w) (gc w) = true then (if r = u then ax_woI (ax_woI (ax_ldI (ax_ldI I 483 (gn p) (gn r)) 540 (gn u) (gn w)) 483 (gn p) (gn r)) 540 (gn u) (gn w) else ax_ldI (ax_ldI I 483 (gn p) (gn r)) 540 (gn u) (gn w)) else ax_ldI (ax_ldI I 483 (gn p) (gn r)) 540 (gn u) (gn w)) else ax_ldI I 483 (gn p) (gn r) := rfl
  have eL1 : ax_exL I L 0 j p r i u w gn gc = if ax_ldv I L 483 1 j p r (gn p) (gc p) (gn r) (gc r) = true then (if ax_ldv (ax_ldI I 483 (gn p) (gn r)) (ax_ldL I L 483 1 j p r (gn p) (gc p) (gn r) (gc r)) 540 1 i u w (gn u) (gc u) (gn w) (gc w) = true then (if r = u then ax_woL (ax_woI (ax_ldI (ax_ldI I 483 (gn p) (gn r)) 540 (gn u) (gn w)) 483 (gn p) (gn r)) (ax_woL (ax_ldI (ax_ldI I 483 (gn p) (gn r)) 540 (gn u) (gn w)) (ax_ldL (ax_ldI I 483 (gn p) (gn r)) (ax_ldL I L 483 1 j p r (gn p) (gc p) (gn r) (gc r)) 540 1 i u w (gn u) (gc u) (gn w) (gc w)) 483 1 j (gn p) (gn r)) 540 1 i (gn u) (gn w) else ax_ldL (ax_ldI I 483 (gn p) (gn r)) (ax_ldL I L 483 1 j p r (gn p) (gc p) (gn r) (gc r)) 540 1 i u w (gn u) (gc u) (gn w) (gc w)) else ax_ldL (ax_ldI I 483 (gn p) (gn r)) (ax_ldL I L 483 1 j p r (gn p) (gc p) (gn r) (gc r)) 540 1 i u w (gn u) (gc u) (gn w) (gc w)) else ax_ldL I L 483 1 j p r (gn p) (gc p) (gn r) (gc r) := rfl
  have ev1 : ax_exv I L 0 j p r i u w gn gc = if ax_ldv I L 483 1 j p r (gn p) (gc p) (gn r) (gc r) = true then (if ax_ldv (ax_ldI I 483 (gn p) (gn r)) (ax_ldL I L 483 1 j p r (gn p) (gc p) (gn r) (gc r)) 540 1 i u w (gn u) (gc u) (gn w) (gc w) = true then (if r = u then (if ax_ias (ax_woL (ax_woI (ax_ldI (ax_ldI I 483 (gn p) (gn r)) 540 (gn u) (gn w)) 483 (gn p) (gn r)) (ax_woL (ax_ldI (ax_ldI I 483 (gn p) (gn r)) 540 (gn u) (gn w)) (ax_ldL (ax_ldI I 483 (gn p) (gn r)) (ax_ldL I L 483 1 j p r (gn p) (gc p) (gn r) (gc r)) 540 1 i u w (gn u) (gc u) (gn w) (gc w)) 483 1 j (gn p) (gn r)) 540 1 i (gn u) (gn w)) 502 (gn r) 568 (gn u) = true then nI 1 else nI 0) else (-4)) else (-4)) else (-4) := rfl
  rw [eI1, eL1, ev1] at K
  clear eI1 eL1 ev1
  cases hw : ax_ldv I L 483 1 j p r (gn p) (gc p) (gn r) (gc r) with
  | false =>
    rw [hw, if_neg (by decide), if_neg (by decide), if_neg (by decide)] at K
    obtain ⟨Y, y1, y2, y3, y4⟩ := rl_N1 (t := 648) r2.2.1 hsn hsc m3 (by omega) (by omega) (ax_ldL I L 483 1 j p r (gn p) (gc p) (gn r) (gc r))
    obtain ⟨fu, hfu⟩ := ax_N1t_spec (rl_N1t (t := 648) r2.2.1 hsn hsc m3 (by omega) (by omega)).1 (ax_ldL I L 483 1 j p r (gn p) (gc p) (gn r) (gc r))
    obtain ⟨w1, w2, w3⟩ := WL (ax_ldL I L 483 1 j p r (gn p) (gc p) (gn r) (gc r))
    have eY : ax_wlf (I 640) 639 j p (gn p) (gn r) (gc p) 0 Y = ax_wl 639 j p r (gn p) (gn r) (gc p) (gc r) (I 640) (ax_ldL I L 483 1 j p r (gn p) (gc p) (gn r) (gc r)) := by
      unfold ax_wl; rw [rl_N1u hfu y1]
    refine ay_PI.mk K (k_X11_exact_state1 l D T o 1000 G (ax_ldI I 483 (gn p) (gn r)) (ax_ldL I L 483 1 j p r (gn p) (gc p) (gn r) (gc r)) 639 j p r (gn p) (gn r) (gc p) (gc r) i u w (gn u) (gn w) (gc u) (gc w) 9223372036854775808 (I 640) Y _ r1.2.1 (jI1 _ (by omega) (by omega)) m1 m2 m3 m4 m5 m6 m7 m8 m9 (hsc p m2).1 (hsc p m2).2 (hsc r m3).1 (hsc r m3).2 n1 n2 n3 n4 n5 n6 n7 n8 n9 (hsc u n2).1 (hsc u n2).2 (hsc w n3).1 (hsc w n3).2 y1 eY (w1.symm.trans hw) (by omega)) rfl ?_
    refine h.work3 (fun q hq => by rw [ax_u_ne (by omega)]; exact jI1 q (by omega) (by omega)) (fun z hz => by rw [ax_u_nj (by omega), jI1 639 (by omega) (by omega)]) (fun q hq => ?_)
    exact (w3 q (by omega) (by omega) (by omega) (by omega)).trans (w2 q (by omega))
  | true =>
    rw [hw, if_pos rfl, if_pos rfl, if_pos rfl] at K
    have jI2 : ∀ q, (q < 484 ∨ 551 ≤ q) → ax_ldI (ax_ldI I 483 (gn p) (gn r)) 540 (gn u) (gn w) q = I q := fun q hq => (ax_ldI_ne (by omega)).trans (ax_ldI_ne (by omega))
    -- what both ask of the second map
    have two : ∀ Lr, ∃ N N2, ax_N1 639 r 648 (gn r) (gc r) 9223372036854775808 (I 640) Lr = some N ∧ (ax_wlf (I 640) 639 j p (gn p) (gn r) (gc p) 0 N).1 = true ∧ ax_N1 639 w 648 (gn w) (gc w) 9223372036854775808 (I 640) (ax_wlf (I 640) 639 j p (gn p) (gn r) (gc p) 0 N).2 = some N2 ∧ (ax_wlf (I 640) 639 i u (gn u) (gn w) (gc u) 0 N2).1 = ax_ldv (ax_ldI I 483 (gn p) (gn r)) (ax_ldL I L 483 1 j p r (gn p) (gc p) (gn r) (gc r)) 540 1 i u w (gn u) (gc u) (gn w) (gc w) ∧ ∀ q, q ≠ 643 → q ≠ 648 → q ≠ 649 → q ≠ 650 → (ax_wlf (I 640) 639 i u (gn u) (gn w) (gc u) 0 N2).2 q = Lr q := fun Lr => by
      obtain ⟨N, y1, y2, y3, y4⟩ := rl_N1 (t := 648) r2.2.1 hsn hsc m3 (by omega) (by omega) Lr
      obtain ⟨fu, hfu⟩ := ax_N1t_spec (rl_N1t (t := 648) r2.2.1 hsn hsc m3 (by omega) (by omega)).1 Lr
      have eY : ax_wlf (I 640) 639 j p (gn p) (gn r) (gc p) 0 N = ax_wl 639 j p r (gn p) (gn r) (gc p) (gc r) (I 640) Lr := by
        unfold ax_wl; rw [rl_N1u hfu y1]
      obtain ⟨w1, w2, w3⟩ := WL Lr
      obtain ⟨N2, z1, z2, z3, z4⟩ := rl_N1 (t := 648) r2.2.1 hsn hsc n3 (by omega) (by omega) (ax_wl 639 j p r (gn p) (gn r) (gc p) (gc r) (I 640) Lr).2
      obtain ⟨fu', hfu'⟩ := ax_N1t_spec (rl_N1t (t := 648) r2.2.1 hsn hsc n3 (by omega) (by omega)).1 (ax_wl 639 j p r (gn p) (gn r) (gc p) (gc r) (I 640) Lr).2
      have eZ : ax_wlf (I 640) 639 i u (gn u) (gn w) (gc u) 0 N2 = ax_wl 639 i u w (gn u) (gn w) (gc u) (gc w) (I 640) (ax_wl 639 j p r (gn p) (gn r) (gc p) (gc r) (I 640) Lr).2 := by
        unfold ax_wl; unfold ax_wl at hfu' z1; rw [rl_N1u hfu' z1]
      obtain ⟨v1, v2, v3⟩ := WM (ax_wl 639 j p r (gn p) (gn r) (gc p) (gc r) (I 640) Lr).2
      refine ⟨N, N2, y1, ?_, ?_, ?_, fun q q1 q2 q3 q4 => ?_⟩
      · rw [eY]; exact w1.symm.trans hw
      · rw [eY]; exact z1
      · rw [eZ]; exact v1.symm
      · rw [eZ, v3 q q1 q2 q3 q4]; exact w3 q q1 q2 q3 q4
    have lq2 : ∀ q, (q < 486 ∨ 596 < q) → ax_ldL (ax_ldI I 483 (gn p) (gn r)) (ax_ldL I L 483 1 j p r (gn p) (gc p) (gn r) (gc r)) 540 1 i u w (gn u) (gc u) (gn w) (gc w) q = L q := fun q hq => by
      obtain ⟨-, v2, -⟩ := WM (fun _ _ => 0)
      obtain ⟨-, w2, -⟩ := WL (fun _ _ => 0)
      exact (v2 q (by omega)).trans (w2 q (by omega))
    cases hw2 : ax_ldv (ax_ldI I 483 (gn p) (gn r)) (ax_ldL I L 483 1 j p r (gn p) (gc p) (gn r) (gc r)) 540 1 i u w (gn u) (gc u) (gn w) (gc w) with
    | false =>
      rw [hw2, if_neg (by decide), if_neg (by decide), if_neg (by decide)] at K
      obtain ⟨N, N2, y1, y2, z1, z2, z3⟩ := two (ax_ldL (ax_ldI I 483 (gn p) (gn r)) (ax_ldL I L 483 1 j p r (gn p) (gc p) (gn r) (gc r)) 540 1 i u w (gn u) (gc u) (gn w) (gc w))
      refine ay_PI.mk K (k_X11_exact_state2 l D T o 1000 G _ _ 639 j p r (gn p) (gn r) (gc p) (gc r) i u w (gn u) (gn w) (gc u) (gc w) 9223372036854775808 (I 640) N N2 _ _ r1.2.1 (jI2 640 (by omega)) m1 m2 m3 m4 m5 m6 m7 m8 m9 (hsc p m2).1 (hsc p m2).2 (hsc r m3).1 (hsc r m3).2 n1 n2 n3 n4 n5 n6 n7 n8 n9 (hsc u n2).1 (hsc u n2).2 (hsc w n3).1 (hsc w n3).2 y1 rfl z1 rfl y2 (z2.trans hw2) (by omega)) rfl ?_
      refine h.work3 (fun q hq => by rw [ax_u_ne (by omega)]; exact jI2 q (by omega)) (fun z hz => by rw [ax_u_nj (by omega), jI2 639 (by omega)]) (fun q hq => ?_)
      exact (z3 q (by omega) (by omega) (by omega) (by omega)).trans (lq2 q (by omega))
    | true =>
      rw [hw2, if_pos rfl, if_pos rfl, if_pos rfl] at K
      by_cases hru : r = u
      case neg =>
        rw [if_neg hru, if_neg hru, if_neg hru] at K
        obtain ⟨N, N2, y1, y2, z1, z2, z3⟩ := two (ax_ldL (ax_ldI I 483 (gn p) (gn r)) (ax_ldL I L 483 1 j p r (gn p) (gc p) (gn r) (gc r)) 540 1 i u w (gn u) (gc u) (gn w) (gc w))
        refine ay_PI.mk K (k_X11_exact_state3 l D T o 1000 G _ _ 639 j p r (gn p) (gn r) (gc p) (gc r) i u w (gn u) (gn w) (gc u) (gc w) 9223372036854775808 (I 640) N N2 _ _ r1.2.1 (jI2 640 (by omega)) m1 m2 m3 m4 m5 m6 m7 m8 m9 (hsc p m2).1 (hsc p m2).2 (hsc r m3).1 (hsc r m3).2 n1 n2 n3 n4 n5 n6 n7 n8 n9 (hsc u n2).1 (hsc u n2).2 (hsc w n3).1 (hsc w n3).2 y1 rfl z1 rfl y2 (z2.trans hw2) hru (by omega)) rfl ?_
        refine h.work3 (fun q hq => by rw [ax_u_ne (by omega)]; exact jI2 q (by omega)) (fun z hz => by rw [ax_u_nj (by omega), jI2 639 (by omega)]) (fun q hq => ?_)
        exact (z3 q (by omega) (by omega) (by omega) (by omega)).trans (lq2 q (by omega))
      case pos =>
        rw [if_pos hru, if_pos hru, if_pos hru] at K
        -- the class works out both
        obtain ⟨-, v2, -⟩ := WM (fun _ _ => 0)
        obtain ⟨⟨-, a2, -⟩, a4⟩ := rl_wo (I := ax_ldI (ax_ldI I 483 (gn p) (gn r)) 540 (gn u) (gn w)) (L := ax_ldL (ax_ldI I 483 (gn p) (gn r)) (ax_ldL I L 483 1 j p r (gn p) (gc p) (gn r) (gc r)) 540 1 i u w (gn u) (gc u) (gn w) (gc w)) (a := 483) r2.2.1 r2.2.2.1 hsn hsc hM (by omega) (fun z hz => by rw [jI2 7 (by omega)]; exact e3 z hz) (fun k' j' h1 h2 => by rw [v2 _ (by omega)]; exact WLt k' j' h1 h2)
        have jI3 : ∀ q, (q < 484 ∨ 551 ≤ q) → ax_woI (ax_ldI (ax_ldI I 483 (gn p) (gn r)) 540 (gn u) (gn w)) 483 (gn p) (gn r) q = I q := fun q hq => (ax_woI_ne (by omega)).trans (jI2 q hq)
        generalize ax_woL (ax_ldI (ax_ldI I 483 (gn p) (gn r)) 540 (gn u) (gn w)) (ax_ldL (ax_ldI I 483 (gn p) (gn r)) (ax_ldL I L 483 1 j p r (gn p) (gc p) (gn r) (gc r)) 540 1 i u w (gn u) (gc u) (gn w) (gc w)) 483 1 j (gn p) (gn r) = L3 at *
        generalize ax_woI (ax_ldI (ax_ldI I 483 (gn p) (gn r)) 540 (gn u) (gn w)) 483 (gn p) (gn r) = I3 at *
        obtain ⟨⟨-, -, b3⟩, b4⟩ := rl_wo (I := I3) (L := L3) (a := 540) r2.2.1 r2.2.2.1 hsn hsc hM' (by omega) (fun z hz => by rw [jI3 7 (by omega)]; exact f3 z hz) (fun k' j' h1 h2 => by rw [a4 _ (by omega)]; exact WMt k' j' h1 h2)
        have jI4 : ∀ q, (q < 484 ∨ 578 ≤ q) → ax_woI I3 540 (gn u) (gn w) q = I q := fun q hq => (ax_woI_ne (by omega)).trans (jI3 q (by omega))
        have lq4 : ∀ q, (q < 486 ∨ 596 < q) → ax_woL I3 L3 540 1 i (gn u) (gn w) q = L q := fun q hq => (b4 q (by omega)).trans ((a4 q (by omega)).trans (lq2 q hq))
        have b5 : mt_lat (ax_woL I3 L3 540 1 i (gn u) (gn w)) 502 (gx_R (gn r) (mx_H (I 640) gn gc j p r)) := fun k' j' h1 h2 => by
          rw [b4 _ (by omega)]; exact a2 k' j' h1 h2
        generalize ax_woL I3 L3 540 1 i (gn u) (gn w) = L4 at *
        generalize ax_woI I3 540 (gn u) (gn w) = I4 at *
        -- the reference
        obtain ⟨N, N2, y1, y2, z1, z2, z3⟩ := two L4
        obtain ⟨Y, c1, ⟨c2, c3, c4⟩, c5, -, -⟩ := rl_M1 r2.2.1 r2.2.2.1 hsn hsc hM (ax_wlf (I 640) 639 i u (gn u) (gn w) (gc u) 0 N2).2
        obtain ⟨Z, d1, ⟨d2, d3, d4⟩, d5, -, -⟩ := rl_M1 r2.2.1 r2.2.2.1 hsn hsc hM' (ax_c1 646 656 36 Y)
        obtain ⟨hH, -, -⟩ := mx_Hf r2.2.1 r2.2.2.1 hsn hsc hM
        obtain ⟨hH', -, -⟩ := mx_Hf r2.2.1 r2.2.2.1 hsn hsc hM'
        refine ay_PI.mk K (k_X11_exact l D T o 1000 G I4 L4 639 j p r (gn p) (gn r) (gc p) (gc r) i u w (gn u) (gn w) (gc u) (gc w) 9223372036854775808 (I 640) N N2 Y Z _ _ r1.2.1 (jI4 640 (by omega)) m1 m2 m3 m4 m5 m6 m7 m8 m9 (hsc p m2).1 (hsc p m2).2 (hsc r m3).1 (hsc r m3).2 n1 n2 n3 n4 n5 n6 n7 n8 n9 (hsc u n2).1 (hsc u n2).2 (hsc w n3).1 (hsc w n3).2 y1 rfl z1 rfl y2 (z2.trans hw2) hru c1 d1 (by omega)) ?_ ?_
        · have en : gn u = gn r := by rw [hru]
          have key := mx_al (n := gn r) (b := 502) (c := 568) (t := 656) (s := 645) (L1 := L4) (L2 := Z) (by have := (hsn r m3).2; omega) b5 b3 (fun k' j' h1 h2 => by
            rw [d5 656 (by omega) (by omega) (by omega) (by omega) (by omega) (by omega), og_c1c (by omega), if_pos ⟨rfl, by omega⟩]; exact c3 k' j' h1 h2) d4 (gx_R.z hH.1) (fun k' j' h9 => gx_N.z hH'.1 k' j' (by rw [en]; exact h9))
          have e9 : ax_ias L4 502 (gn r) 568 (gn u) = ax_alike Z 656 645 36 := by
            rw [Bool.eq_iff_iff]
            unfold ax_ias
            rw [decide_eq_true_eq]
            exact ⟨fun h => key.mp h.2, fun h => ⟨en, key.mpr h⟩⟩
          rw [e9]
          show _ = ax_b (ax_alike Z 656 645 36)
          cases ax_alike Z 656 645 36 <;> rfl
        · refine h.work3 (fun q hq => by rw [ax_u_ne (by omega)]; exact jI4 q (by omega)) (fun z hz => by rw [ax_u_nj (by omega), jI4 639 (by omega)]) (fun q hq => ?_)
          refine (d5 q (by omega) (by omega) (by omega) (by omega) (by omega) (by omega)).trans ?_
          refine Eq.trans (funext fun z => ?_) ((c5 q (by omega) (by omega) (by omega) (by omega) (by omega) (by omega)).trans ((z3 q (by omega) (by omega) (by omega) (by omega)).trans (lq4 q (by omega))))
          rw [og_c1c (by omega), if_neg (by omega)]
