/-! ===== pairs: whence ===== -/
theorem mx_okA {m n ρ : Nat} {H : Nat → Nat → Int} {s : Nat → Int} (hm : m ≤ 3) (hn : n ≤ 3) (hH : mt_hn (m + n) H) (hlb : ∀ k, k < m + n → (H k k).natAbs ≤ 26198073) (hρ : ρ ≤ 1000000) (hs : ∀ z, z < m → H z z ≠ 0 → (s z).natAbs ≤ ρ * (H z z).natAbs) :
    (∀ k, k < m + n → H k k ≠ 0 → mt_ok (mt_rf H 0 k (mx_v m s) k)) ∧ ∀ k, k < n → gx_N m n H k k ≠ 0 → mt_ok (mt_rf (gx_N m n H) 0 k (fun z => if z < n then -(mt_rf H 0 m (mx_v m s) (m + z)) else 0) k) := by
  have rf := mt_rfq (w := m + n) (f := 0) (ρ := ρ) (B := H) (v := mx_v m s) hH.2.1 (fun k q _ h1 h2 h3 => hH.2.2.2.1 k q h1 h2 h3) (fun q _ h1 h2 => by
    unfold mx_v
    by_cases c : q < m
    · rw [if_pos c]; exact hs q c h2
    · rw [if_neg c]; exact Nat.zero_le _)
  have hN := gx_N.hn hH
  have hNl : ∀ k, k < n → gx_N m n H k k = H (m + k) (m + k) := fun k hk => if_pos ⟨hk, hk⟩
  refine ⟨fun k hk hne => ?_, fun k hk hne => ?_⟩
  · have h1 := rf k (by omega) k (by omega) hk hne
    have h2 := hlb k hk
    have h3 : gd_c ρ k ≤ 63 * ρ := by rw [← gd_c.six]; exact gd_c.up ρ (by omega)
    have h4 : (ρ + gd_c ρ k) * (H k k).natAbs ≤ 64000000 * 26198073 := Nat.mul_le_mul (by omega) h2
    unfold mt_ok; omega
  · have h7 : gd_c ρ m ≤ 7 * ρ := by
      have : gd_c ρ 3 = 7 * ρ := by show 2 * (2 * (2 * 0 + ρ) + ρ) + ρ = _; omega
      rw [← this]; exact gd_c.up ρ hm
    have h1 := mt_rfq (w := n) (f := 0) (ρ := 8 * ρ) (B := gx_N m n H) (v := fun z => if z < n then -(mt_rf H 0 m (mx_v m s) (m + z)) else 0) hN.2.1 (fun k q _ h1 h2 h3 => hN.2.2.2.1 k q h1 h2 h3) (fun q _ h1 h2 => by
      rw [hNl q h1] at h2 ⊢
      have h3 := rf m (by omega) (m + q) (by omega) (by omega) h2
      have h4 : (ρ + gd_c ρ m) * (H (m + q) (m + q)).natAbs ≤ 8 * ρ * (H (m + q) (m + q)).natAbs := Nat.mul_le_mul_right _ (by omega)
      try dsimp only
      rw [if_pos h1, Int.natAbs_neg]; omega) k (by omega) k (by omega) hk hne
    have h5 : gd_c (8 * ρ) k ≤ 7 * (8 * ρ) := by
      have : gd_c (8 * ρ) 3 = 7 * (8 * ρ) := by show 2 * (2 * (2 * 0 + 8 * ρ) + 8 * ρ) + 8 * ρ = _; omega
      rw [← this]; exact gd_c.up _ (by omega)
    have h2 : (gx_N m n H k k).natAbs ≤ 26198073 := by rw [hNl k hk]; exact hlb _ (by omega)
    have h4 : (8 * ρ + gd_c (8 * ρ) k) * (gx_N m n H k k).natAbs ≤ 64000000 * 26198073 := Nat.mul_le_mul (by omega) h2
    unfold mt_ok; omega
theorem mx_999 {v : Int32} (h : ax_in3 v.toInt64 (-999) 999 = true) : v.toInt.natAbs ≤ 999 := by
  rw [rl_in3, decide_eq_true_eq] at h
  have a1 : (-999 : Int64).toInt = -999 := by decide
  have a2 : (999 : Int64).toInt = 999 := by decide
  omega
/-- an element as it was told -/
def mx_e (a b c : Int32) : Nat → Int := fun z => if z = 0 then a.toInt else if z = 1 then b.toInt else c.toInt
theorem mx_e.b {a b c : Int32} (h : (ax_in3 a.toInt64 (-999) 999 && ax_in3 b.toInt64 (-999) 999 && ax_in3 c.toInt64 (-999) 999) = true) (z : Nat) : (mx_e a b c z).natAbs ≤ 999 := by
  rw [Bool.and_eq_true, Bool.and_eq_true] at h
  unfold mx_e
  split
  · exact mx_999 h.1.1
  · split
    · exact mx_999 h.1.2
    · exact mx_999 h.2
theorem mx_e.tl {a b c : Int32} {n z : Nat} {L : ax_L} (hn : n ≤ 3) (hz : z < n) : ax_tl 621 n a b c L 621 z = Int64.ofInt (mx_e a b c z) := by
  rw [rl_tl (by omega), if_pos hz]
  unfold mx_e
  rcases (show z = 0 ∨ z = 1 ∨ z = 2 by omega) with rfl | rfl | rfl
  · exact (Int64.ofInt_int32ToInt _).symm
  · exact (Int64.ofInt_int32ToInt _).symm
  · exact (Int64.ofInt_int32ToInt _).symm
theorem mx_e.st {a b c : Int32} {n z t : Nat} {L : ax_L} (hn : n ≤ 3) (hz : z < n) : ax_st t n a.toInt64 b.toInt64 c.toInt64 L t z = Int64.ofInt (mx_e a b c z) := by
  rw [rl_st (by omega), if_pos hz]
  unfold mx_e
  rcases (show z = 0 ∨ z = 1 ∨ z = 2 by omega) with rfl | rfl | rfl
  · exact (Int64.ofInt_int32ToInt _).symm
  · exact (Int64.ofInt_int32ToInt _).symm
  · exact (Int64.ofInt_int32ToInt _).symm
set_option maxRecDepth 20000 in
theorem rl_P16 (l : Launch) (D : va_G) (T : Nat → ClassId) (o : Nat) : law_P16 l D T o 1000 rl_Rel 0 639 := by
  intro x G I L h
  obtain ⟨r1, r2, -⟩ := id h
  cases hf : (ax_in3 (x 1).toInt64 0 7 && !decide (I (1 + 4) (x 1).toNatClampNeg = -1)) with
  | false => exact ay_PJ.mk (k_X10_whence_bad l D T o 1000 G I L 0 (x 1) (x 5) (x 2) (x 3) (x 4) r1.1 hf (by omega)) (k_X11_whence_no l D T o 1000 G I L 639 (x 1) (x 2) (x 3) (x 4) (x 5) r1.2.1 (by rw [← rl_isMap r2]; exact hf) (by omega)) (by decide) h
  | true =>
    obtain ⟨j, p, r, a, b, ej, hM, e1, e2, e3, -⟩ := rl_mapAt r2 hf
    obtain ⟨m1, m2, m3, m4, m5, m6, m7, m8, m9⟩ := id hM
    obtain ⟨gn, gc, hgn, hgc, hsn, hsc⟩ := rl_gngc r2
    have ea : gn p = a := (nI_eq (by have := (hsn p m2).2; omega) (by omega)).mp ((hsn p m2).1.symm.trans m8)
    have eb : gn r = b := (nI_eq (by have := (hsn r m3).2; omega) (by omega)).mp ((hsn r m3).1.symm.trans m9)
    subst ea eb
    rw [ej]
    cases he : (ax_iw (x 2).toInt64 (999 : Int32).toInt64 && ax_iw (x 3).toInt64 (999 : Int32).toInt64 && ax_iw (x 4).toInt64 (999 : Int32).toInt64) with
    | false =>
      have he' : (ax_in3 (x 2).toInt64 (-999) 999 && ax_in3 (x 3).toInt64 (-999) 999 && ax_in3 (x 4).toInt64 (-999) 999) = false := he
      exact ay_PJ.mk (k_X10_whence_el l D T o 1000 G I L 0 j p r (x 5) (x 2) (x 3) (x 4) gn gc r1.1 hgn hgc m1 e1 m2 e2 m3 he (by omega)) (k_X11_whence_bad l D T o 1000 G I L 639 j p r (gn p) (gn r) (x 2) (x 3) (x 4) (x 5) (I 640) r1.2.1 rfl m1 m2 m3 m4 m5 m6 m7 m8 m9 (by rw [he', Bool.false_and]) (by omega)) (by decide) h
    | true =>
      have he' : (ax_in3 (x 2).toInt64 (-999) 999 && ax_in3 (x 3).toInt64 (-999) 999 && ax_in3 (x 4).toInt64 (-999) 999) = true := he
      cases hk : ax_rng (x 5) (nI (gn p)) with
      | false =>
        have hk2 := hk
        rw [rl_rngS _ (by omega)] at hk2
        have hk3 : ax_in3 (x 5).toInt64 0 (nI (gn p) - 1).toInt64 = false := hk2
        exact ay_PJ.mk (k_X10_whence_out l D T o 1000 G I L 0 j p r (x 5) (x 2) (x 3) (x 4) gn gc r1.1 hgn hgc m1 e1 m2 e2 m3 he hk (by omega)) (k_X11_whence_bad l D T o 1000 G I L 639 j p r (gn p) (gn r) (x 2) (x 3) (x 4) (x 5) (I 640) r1.2.1 rfl m1 m2 m3 m4 m5 m6 m7 m8 m9 (by rw [hk3, Bool.and_false]) (by omega)) (by decide) h
      | true =>
        rw [rl_rngS _ (by omega)] at hk
        obtain ⟨k, hk', ek⟩ := ax_in3_natS (by omega) hk
        rw [ek]
        have jI : ∀ q, q ≠ 484 → q ≠ 493 → ax_ldI I 483 (gn p) (gn r) q = I q := fun q h1 h2 => by
          show ax_u (ax_u I 484 2 _) 493 2 _ q = _
          rw [ax_u_ne h2, ax_u_ne h1]
        have WL := fun Lr => rl_well (Lc := L) (Lr := Lr) r2 hsn hsc hM e3
        cases hw : ax_ldv I L 483 1 j p r (gn p) (gc p) (gn r) (gc r) with
        | false =>
          obtain ⟨Y, y1, y2, y3, y4⟩ := rl_N1 (t := 648) r2.2.1 hsn hsc m3 (by omega) (by omega) (ax_ldL I L 483 1 j p r (gn p) (gc p) (gn r) (gc r))
          obtain ⟨fu, hfu⟩ := ax_N1t_spec (rl_N1t (t := 648) r2.2.1 hsn hsc m3 (by omega) (by omega)).1 (ax_ldL I L 483 1 j p r (gn p) (gc p) (gn r) (gc r))
          obtain ⟨w1, w2, w3⟩ := WL (ax_ldL I L 483 1 j p r (gn p) (gc p) (gn r) (gc r))
          have eY : ax_wlf (I 640) 639 j p (gn p) (gn r) (gc p) 0 Y = ax_wl 639 j p r (gn p) (gn r) (gc p) (gc r) (I 640) (ax_ldL I L 483 1 j p r (gn p) (gc p) (gn r) (gc r)) := by
            unfold ax_wl; rw [rl_N1u hfu y1]
          refine ay_PJ.mk (k_X10_whence_no l D T o 1000 G I L 0 j p r k (x 2) (x 3) (x 4) gn gc r1.1 hgn hgc m1 e1 m2 e2 m3 he hk' hw (by omega))
            (k_X11_whence_state l D T o 1000 G (ax_ldI I 483 (gn p) (gn r)) (ax_ldL I L 483 1 j p r (gn p) (gc p) (gn r) (gc r)) 639 j p r (gn p) (gn r) (gc p) (gc r) 9223372036854775808 k (x 2) (x 3) (x 4) (I 640) Y _ r1.2.1 (jI _ (by omega) (by omega)) m1 m2 m3 m4 m5 m6 m7 m8 m9 (hsc p m2).1 (hsc p m2).2 (hsc r m3).1 (hsc r m3).2 hk' he' y1 eY (w1.symm.trans hw) (by omega)) (by decide) ?_
          refine h.work2 (fun q hq => by rw [ax_u_ne (by omega)]; exact jI q (by omega) (by omega)) (fun z hz => by rw [ax_u_nj (by omega), jI 639 (by omega) (by omega)]) (fun q hq => ?_)
          exact (w3 q (by omega) (by omega) (by omega) (by omega)).trans (w2 q (by omega))
        | true =>
          obtain ⟨⟨g1, g2, g3⟩, ⟨g4, g5⟩, g6, g7⟩ := mx_go (aa := 483) (by omega) (L := L) r2 hsn hsc hM e3
          have K := k_X10_whence l D T o 1000 G I L 0 j p r k (x 2) (x 3) (x 4) gn gc r1.1 hgn hgc m1 e1 m2 e2 m3 he hk' hw (by omega)
          have dL : ax_whL I L 0 j p r (x 2) (x 3) (x 4) gn gc = ax_gbL (ax_tl 621 (gn r) (x 2) (x 3) (x 4) (ax_woL (ax_ldI I 483 (gn p) (gn r)) (ax_ldL I L 483 1 j p r (gn p) (gc p) (gn r) (gc r)) 483 1 j (gn p) (gn r))) 483 621 (gn p) (gn r) := rfl
          have dv : ax_whv I L 0 j p r k (x 2) (x 3) (x 4) gn gc = if ax_gbv (ax_tl 621 (gn r) (x 2) (x 3) (x 4) (ax_woL (ax_ldI I 483 (gn p) (gn r)) (ax_ldL I L 483 1 j p r (gn p) (gc p) (gn r) (gc r)) 483 1 j (gn p) (gn r))) 483 621 (gn p) (gn r) = true then ax_gbL (ax_tl 621 (gn r) (x 2) (x 3) (x 4) (ax_woL (ax_ldI I 483 (gn p) (gn r)) (ax_ldL I L 483 1 j p r (gn p) (gc p) (gn r) (gc r)) 483 1 j (gn p) (gn r))) 483 621 (gn p) (gn r) 621 k else (-4000000000000000000) + (-3).toInt64 := rfl
          rw [dL, dv] at K
          have K' : ax_Con l D T o yX10_whence cX10_whence 6 (some .long) 1000 0 0 [.ref 0, .int (nI j), .int (x 2), .int (x 3), .int (x 4), .int (nI k)] G I L (fun zz G' I' L' => zz = some (.long (if ax_gbv (ax_tl 621 (gn r) (x 2) (x 3) (x 4) (ax_woL (ax_ldI I 483 (gn p) (gn r)) (ax_ldL I L 483 1 j p r (gn p) (gc p) (gn r) (gc r)) 483 1 j (gn p) (gn r))) 483 621 (gn p) (gn r) = true then ax_gbL (ax_tl 621 (gn r) (x 2) (x 3) (x 4) (ax_woL (ax_ldI I 483 (gn p) (gn r)) (ax_ldL I L 483 1 j p r (gn p) (gc p) (gn r) (gc r)) 483 1 j (gn p) (gn r))) 483 621 (gn p) (gn r) 621 k else (-4000000000000000000) + (-3).toInt64)) ∧ G = G' ∧ (ax_woI (ax_ldI I 483 (gn p) (gn r)) 483 (gn p) (gn r)) = I' ∧ (ax_gbL (ax_tl 621 (gn r) (x 2) (x 3) (x 4) (ax_woL (ax_ldI I 483 (gn p) (gn r)) (ax_ldL I L 483 1 j p r (gn p) (gc p) (gn r) (gc r)) 483 1 j (gn p) (gn r))) 483 621 (gn p) (gn r)) = L') := K
          clear K
          generalize ax_woL (ax_ldI I 483 (gn p) (gn r)) (ax_ldL I L 483 1 j p r (gn p) (gc p) (gn r) (gc r)) 483 1 j (gn p) (gn r) = L2 at *
          generalize ax_woI (ax_ldI I 483 (gn p) (gn r)) 483 (gn p) (gn r) = I2 at *
          have tlq : ∀ q, q ≠ 621 → ax_tl 621 (gn r) (x 2) (x 3) (x 4) L2 q = L2 q := fun q hq => by unfold ax_tl; rw [ax_u_ne hq, ax_u_ne hq, ax_u_ne hq]
          have tlr : ∀ z, z < gn r → ax_tl 621 (gn r) (x 2) (x 3) (x 4) L2 621 z = Int64.ofInt (mx_e (x 2) (x 3) (x 4) z) := fun z hz => mx_e.tl (hsn r m3).2 hz
          generalize ax_tl 621 (gn r) (x 2) (x 3) (x 4) L2 = L3 at *
          obtain ⟨hH, hlb, -⟩ := mx_Hf r2.2.1 r2.2.2.1 hsn hsc hM
          obtain ⟨okA, okB⟩ := mx_okA (m := gn r) (n := gn p) (ρ := 999) (s := mx_e (x 2) (x 3) (x 4)) (hsn r m3).2 (hsn p m2).2 hH.1 hlb (by omega) (fun z _ hne => Nat.le_trans (mx_e.b he' z) (Nat.le_mul_of_pos_right _ (by omega)))
          -- the reference begins where the class has ended
          obtain ⟨w1, w2, w3⟩ := WL (ax_gbL L3 483 621 (gn p) (gn r))
          obtain ⟨Y, y1, y2, y3, y4⟩ := rl_N1 (t := 648) r2.2.1 hsn hsc m3 (by omega) (by omega) (ax_gbL L3 483 621 (gn p) (gn r))
          obtain ⟨fu, hfu⟩ := ax_N1t_spec (rl_N1t (t := 648) r2.2.1 hsn hsc m3 (by omega) (by omega)).1 (ax_gbL L3 483 621 (gn p) (gn r))
          have eY : ax_wlf (I 640) 639 j p (gn p) (gn r) (gc p) 0 Y = ax_wl 639 j p r (gn p) (gn r) (gc p) (gc r) (I 640) (ax_gbL L3 483 621 (gn p) (gn r)) := by
            unfold ax_wl; rw [rl_N1u hfu y1]
          obtain ⟨Z, z1, ⟨z2, z3, z4⟩, z5, -, -⟩ := rl_M1 r2.2.1 r2.2.2.1 hsn hsc hM (ax_st 655 (gn r) (x 2).toInt64 (x 3).toInt64 (x 4).toInt64 (ax_wl 639 j p r (gn p) (gn r) (gc p) (gc r) (I 640) (ax_gbL L3 483 621 (gn p) (gn r))).2)
          obtain ⟨v1, v2, v3, v4⟩ := mx_gb (a := 483) (q := 621) (L := L3) (Y := Z) (s := mx_e (x 2) (x 3) (x 4)) (hsn r m3).2 (hsn p m2).2 hH.1 hlb okA okB (by omega) (fun k' j' h1 h2 => by rw [tlq _ (by omega)]; exact g1 k' j' h1 h2) (fun k' j' h1 h2 => by rw [tlq _ (by omega)]; exact g3 k' j' h1 h2) z2 z4 tlr (fun z hz => by rw [z5 655 (by omega) (by omega) (by omega) (by omega) (by omega) (by omega)]; exact mx_e.st (hsn r m3).2 hz)
          have hS2 : I2 640 = I 640 := g7 640 (by omega)
          have frI : ∀ q, (q < 483 ∨ 540 ≤ q) → I2 q = I q := fun q hq => g7 q (by omega)
          refine ay_PJ.mk K' (k_X11_whence l D T o 1000 G I2 (ax_gbL L3 483 621 (gn p) (gn r)) 639 j p r (gn p) (gn r) (gc p) (gc r) 9223372036854775808 k (x 2) (x 3) (x 4) (I 640) Y Z _ r1.2.1 hS2 m1 m2 m3 m4 m5 m6 m7 m8 m9 (hsc p m2).1 (hsc p m2).2 (hsc r m3).1 (hsc r m3).2 hk' he' y1 eY (w1.symm.trans hw) z1 (by omega)) ?_ ?_
          · rw [v1]
            cases hv : (ax_cb 639 (gn p) (gn r) Z).1 with
            | false => rw [if_neg (by decide), if_neg (by decide)]; decide
            | true =>
              obtain ⟨R, -, -, -, R4⟩ := v4 (v1.trans hv)
              obtain ⟨a1, a2⟩ := R4 k (by have := (hsn p m2).2; omega)
              rw [if_pos rfl, if_pos rfl, a1]; exact a2.symm
          · refine h.work2 (fun q hq => by rw [ax_u_ne (by omega)]; exact frI q (by omega)) (fun z hz => by rw [ax_u_nj (by omega), frI 639 (by omega)]) (fun q hq => ?_)
            refine (v3 q (by omega) (by omega)).trans ((z5 q (by omega) (by omega) (by omega) (by omega) (by omega) (by omega)).trans ?_)
            rw [rl_st_ne (by omega), w3 q (by omega) (by omega) (by omega) (by omega), v2 q (by omega) (by omega), tlq q (by omega)]
            exact g6 q (by omega)
