/-! ===== pairs: mapIs, 3 and 4 ===== -/
set_option maxRecDepth 20000 in
theorem rl_13b (l : Launch) (D : va_G) (T : Nat → ClassId) (o : Nat) : ∀ x : Nat → Int32, (x 2 = nI 3 ∨ x 2 = nI 4) → ay_PI l D T o 1000 rl_Rel 0 639 yX10_mapIs cX10_mapIs 5 (some .int) yX11_mapIs cX11_mapIs 4 (some .int) [.int (x 1), .int (x 2)] := by
  intro x h34 G I L h
  obtain ⟨r1, r2, -⟩ := id h
  cases hf : (ax_in3 (x 1).toInt64 0 7 && !decide (I (1 + 4) (x 1).toNatClampNeg = -1)) with
  | false =>
    refine ay_PI.mk (k_X10_mapIs_bad l D T o 1000 G I L 0 (x 1) (x 2) r1.1 (Or.inl hf) (by omega)) (k_X11_mapIs_bad l D T o 1000 G I L 639 (x 1) (x 2) r1.2.1 (by omega) ?_) rfl h
    have e5 : (ax_in3 (x 1).toInt64 0 7 && !decide (I (639 + 1) (84 + 11 * (x 1).toNatClampNeg) < 0)) = (ax_in3 (x 1).toInt64 0 7 && !decide (I (1 + 4) (x 1).toNatClampNeg = -1)) := (rl_isMap r2 (x 1)).symm
    rw [e5, hf]; rfl
  | true =>
    obtain ⟨j, p, r, a, b, ej, hM, e1, e2, e3, -⟩ := rl_mapAt r2 hf
    obtain ⟨m1, m2, m3, m4, m5, m6, m7, m8, m9⟩ := id hM
    obtain ⟨gn, gc, hgn, hgc, hsn, hsc⟩ := rl_gngc r2
    have ea : gn p = a := (nI_eq (by have := (hsn p m2).2; omega) (by omega)).mp ((hsn p m2).1.symm.trans m8)
    have eb : gn r = b := (nI_eq (by have := (hsn r m3).2; omega) (by omega)).mp ((hsn r m3).1.symm.trans m9)
    subst ea eb
    rw [ej]
    have jI : ∀ q, q ≠ 484 → q ≠ 493 → ax_ldI I 483 (gn p) (gn r) q = I q := fun q h1 h2 => by
      show ax_u (ax_u I 484 2 _) 493 2 _ q = _
      rw [ax_u_ne h2, ax_u_ne h1]
    have WL := fun Lr => rl_well (Lc := L) (Lr := Lr) r2 hsn hsc hM e3
    cases hw : ax_ldv I L 483 1 j p r (gn p) (gc p) (gn r) (gc r) with
    | false =>
      obtain ⟨Y, y1, y2, y3, y4⟩ := rl_N1 (t := 648) r2.2.1 hsn hsc m3 (by omega) (by omega) (ax_ldL I L 483 1 j p r (gn p) (gc p) (gn r) (gc r))
      obtain ⟨fu, hfu⟩ := ax_N1t_spec (rl_N1t (t := 648) r2.2.1 hsn hsc m3 (by omega) (by omega)).1 (ax_ldL I L 483 1 j p r (gn p) (gc p) (gn r) (gc r))
      obtain ⟨w1, w2, w3⟩ := WL (ax_ldL I L 483 1 j p r (gn p) (gc p) (gn r) (gc r))
      have eY : ax_wlf (I 640) 639 j p (gn p) (gn r) (gc p) 0 Y = ax_wl 639 j p r (gn p) (gn r) (gc p) (gc r) (I 640) (ax_ldL I L 483 1 j p r (gn p) (gc p) (gn r) (gc r)) := by
        unfold ax_wl; rw [rl_N1u hfu y1]
      have rel : rl_Rel G (ax_u (ax_ldI I 483 (gn p) (gn r)) 639 6 (nI (gc r))) (ax_wl 639 j p r (gn p) (gn r) (gc p) (gc r) (I 640) (ax_ldL I L 483 1 j p r (gn p) (gc p) (gn r) (gc r))).2 := by
        refine h.work2 (fun q hq => by rw [ax_u_ne (by omega)]; exact jI q (by omega) (by omega)) (fun z hz => by rw [ax_u_nj (by omega), jI 639 (by omega) (by omega)]) (fun q hq => ?_)
        exact (w3 q (by omega) (by omega) (by omega) (by omega)).trans (w2 q (by omega))
      rcases h34 with e | e
      · rw [e]
        exact ay_PI.mk (k_X10_mapIs_3_no l D T o 1000 G I L 0 j p r gn gc r1.1 hgn hgc m1 e1 m2 e2 m3 hw (by omega))
          (k_X11_mapIs_3_no l D T o 1000 G (ax_ldI I 483 (gn p) (gn r)) (ax_ldL I L 483 1 j p r (gn p) (gc p) (gn r) (gc r)) 639 j p r (gn p) (gn r) (gc p) (gc r) 9223372036854775808 (I 640) Y _ r1.2.1 (jI _ (by omega) (by omega)) m1 m2 m3 m4 m5 m6 m7 m8 m9 (hsc p m2).1 (hsc p m2).2 (hsc r m3).1 (hsc r m3).2 y1 eY (w1.symm.trans hw) (by omega)) rfl rel
      · rw [e]
        exact ay_PI.mk (k_X10_mapIs_4_no l D T o 1000 G I L 0 j p r gn gc r1.1 hgn hgc m1 e1 m2 e2 m3 hw (by omega))
          (k_X11_mapIs_4_no l D T o 1000 G (ax_ldI I 483 (gn p) (gn r)) (ax_ldL I L 483 1 j p r (gn p) (gc p) (gn r) (gc r)) 639 j p r (gn p) (gn r) (gc p) (gc r) 9223372036854775808 (I 640) Y _ r1.2.1 (jI _ (by omega) (by omega)) m1 m2 m3 m4 m5 m6 m7 m8 m9 (hsc p m2).1 (hsc p m2).2 (hsc r m3).1 (hsc r m3).2 y1 eY (w1.symm.trans hw) (by omega)) rfl rel
    | true =>
      obtain ⟨⟨g1, g2, g3⟩, ⟨g4, g5⟩, g6, g7⟩ := mx_go (aa := 483) (by omega) (L := L) r2 hsn hsc hM e3
      have K3 := k_X10_mapIs_3 l D T o 1000 G I L 0 j p r gn gc r1.1 hgn hgc m1 e1 m2 e2 m3 hw (by omega)
      have K4 := k_X10_mapIs_4 l D T o 1000 G I L 0 j p r gn gc r1.1 hgn hgc m1 e1 m2 e2 m3 hw (by omega)
      have d3 : ax_miv3 I L 0 j p r gn gc = if ax_oto (ax_woL (ax_ldI I 483 (gn p) (gn r)) (ax_ldL I L 483 1 j p r (gn p) (gc p) (gn r) (gc r)) 483 1 j (gn p) (gn r)) 483 (gn p) (gn p) = true then nI 1 else nI 0 := rfl
      have d4 : ax_miv4 I L 0 j p r gn gc = if (if ax_ixp 502 (ax_woL (ax_ldI I 483 (gn p) (gn r)) (ax_ldL I L 483 1 j p r (gn p) (gc p) (gn r) (gc r)) 483 1 j (gn p) (gn r)) (gn r) = 1 then true else false) = true then nI 1 else nI 0 := rfl
      have i3 : ax_miI3 I 0 p r gn = ax_woI (ax_ldI I 483 (gn p) (gn r)) 483 (gn p) (gn r) := rfl
      have i4 : ax_miI4 I 0 p r gn = ax_woI (ax_ldI I 483 (gn p) (gn r)) 483 (gn p) (gn r) := rfl
      have l3 : ax_miL3 I L 0 j p r gn gc = ax_woL (ax_ldI I 483 (gn p) (gn r)) (ax_ldL I L 483 1 j p r (gn p) (gc p) (gn r) (gc r)) 483 1 j (gn p) (gn r) := rfl
      have l4 : ax_miL4 I L 0 j p r gn gc = ax_woL (ax_ldI I 483 (gn p) (gn r)) (ax_ldL I L 483 1 j p r (gn p) (gc p) (gn r) (gc r)) 483 1 j (gn p) (gn r) := rfl
      rw [d3, i3, l3] at K3
      rw [d4, i4, l4] at K4
      generalize ax_woL (ax_ldI I 483 (gn p) (gn r)) (ax_ldL I L 483 1 j p r (gn p) (gc p) (gn r) (gc r)) 483 1 j (gn p) (gn r) = L2 at *
      generalize ax_woI (ax_ldI I 483 (gn p) (gn r)) 483 (gn p) (gn r) = I2 at *
      obtain ⟨w1, w2, w3⟩ := WL L2
      obtain ⟨Y, y1, y2, y3, y4⟩ := rl_N1 (t := 648) r2.2.1 hsn hsc m3 (by omega) (by omega) L2
      obtain ⟨fu, hfu⟩ := ax_N1t_spec (rl_N1t (t := 648) r2.2.1 hsn hsc m3 (by omega) (by omega)).1 L2
      have eY : ax_wlf (I 640) 639 j p (gn p) (gn r) (gc p) 0 Y = ax_wl 639 j p r (gn p) (gn r) (gc p) (gc r) (I 640) L2 := by
        unfold ax_wl; rw [rl_N1u hfu y1]
      obtain ⟨Z, z1, ⟨z2, z3, z4⟩, z5, -, -⟩ := rl_M1 r2.2.1 r2.2.2.1 hsn hsc hM (ax_wl 639 j p r (gn p) (gn r) (gc p) (gc r) (I 640) L2).2
      obtain ⟨hH, -, hP⟩ := mx_Hf r2.2.1 r2.2.2.1 hsn hsc hM
      have hS2 : I2 640 = I 640 := g7 640 (by omega)
      have frI : ∀ q, (q < 483 ∨ 540 ≤ q) → I2 q = I q := fun q hq => g7 q (by omega)
      rcases h34 with e | e
      · rw [e]
        obtain ⟨N2, v1, v2, v3, v4⟩ := rl_N1 (t := 644) r2.2.1 hsn hsc m2 (by omega) (by omega) Z
        refine ay_PI.mk K3 (k_X11_mapIs_3 l D T o 1000 G I2 L2 639 j p r (gn p) (gn r) (gc p) (gc r) 9223372036854775808 (I 640) Y Z N2 _ r1.2.1 hS2 m1 m2 m3 m4 m5 m6 m7 m8 m9 (hsc p m2).1 (hsc p m2).2 (hsc r m3).1 (hsc r m3).2 y1 eY (w1.symm.trans hw) z1 v1 (by omega)) ?_ ?_
        · have key := mx_al (n := gn p) (b := 483 + 28) (c := 483 + 1) (t := 645) (s := 644) (L1 := L2) (L2 := N2) (by omega) g3 g4 (fun k' j' h1 h2 => by rw [v3 645 (by omega) (by omega) (by omega)]; exact z4 k' j' h1 h2) v2 (gx_N.z hH.1) (mx_Nz r2.2.1 hsn hsc m2)
          have e9 : ax_oto L2 483 (gn p) (gn p) = ax_alike N2 645 644 36 := by
            rw [Bool.eq_iff_iff]
            unfold ax_oto
            rw [decide_eq_true_eq]
            exact ⟨fun h => key.mp h.2, fun h => ⟨rfl, key.mpr h⟩⟩
          rw [e9]
          show _ = ax_b (ax_alike N2 645 644 36)
          cases ax_alike N2 645 644 36 <;> rfl
        · refine h.work2 (fun q hq => by rw [ax_u_ne (by omega)]; exact frI q (by omega)) (fun z hz => by rw [ax_u_nj (by omega), frI 639 (by omega)]) (fun q hq => ?_)
          exact (v3 q (by omega) (by omega) (by omega)).trans ((z5 q (by omega) (by omega) (by omega) (by omega) (by omega) (by omega)).trans ((w3 q (by omega) (by omega) (by omega) (by omega)).trans (g6 q (by omega))))
      · rw [e]
        refine ay_PI.mk K4 (k_X11_mapIs_4 l D T o 1000 G I2 L2 639 j p r (gn p) (gn r) (gc p) (gc r) 9223372036854775808 (I 640) Y Z _ r1.2.1 hS2 m1 m2 m3 m4 m5 m6 m7 m8 m9 (hsc p m2).1 (hsc p m2).2 (hsc r m3).1 (hsc r m3).2 y1 eY (w1.symm.trans hw) z1 (by omega)) ?_ ?_
        · have key := mx_on (a := 502) (t := 646) (L1 := L2) (L2 := Z) (hsn r m3).2 hH.1 hP g2 z3
          show _ = ax_b (ax_on (Z 646) (gn r))
          rw [← key]
          by_cases c : ax_ixp 502 L2 (gn r) = 1
          · rw [if_pos c, if_pos rfl, decide_eq_true c]; rfl
          · rw [if_neg c, if_neg (by decide), decide_eq_false c]; rfl
        · refine h.work2 (fun q hq => by rw [ax_u_ne (by omega)]; exact frI q (by omega)) (fun z hz => by rw [ax_u_nj (by omega), frI 639 (by omega)]) (fun q hq => ?_)
          exact (z5 q (by omega) (by omega) (by omega) (by omega) (by omega) (by omega)).trans ((w3 q (by omega) (by omega) (by omega) (by omega)).trans (g6 q (by omega)))
theorem rl_13 (l : Launch) (D : va_G) (T : Nat → ClassId) (o : Nat) : law_P13 l D T o 1000 rl_Rel 0 639 := by
  intro x
  by_cases c3 : x 2 = nI 3
  · exact rl_13b l D T o x (Or.inl c3)
  · by_cases c4 : x 2 = nI 4
    · exact rl_13b l D T o x (Or.inr c4)
    · exact rl_13a l D T o x c3 c4
