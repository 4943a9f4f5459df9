/-! ===== pairs: same, ofTwo ===== -/
theorem og_c1c {a b : Nat} {L : ax_L} (hab : a ≠ b) : ∀ n q z, ax_c1 a b n L q z = if q = b ∧ z < n then L a z else L q z := by
  intro n
  induction n with
  | zero => intro q z; rw [if_neg (by omega)]; rfl
  | succ n ih =>
    intro q z
    show ax_u (ax_c1 a b n L) b n (ax_c1 a b n L a n) q z = _
    have e1 : ax_c1 a b n L a n = L a n := by rw [ih, if_neg (fun y => hab y.1)]
    rw [e1]
    by_cases hq : q = b
    · subst hq
      by_cases hz : z = n
      · subst hz; rw [ax_u_at, if_pos ⟨rfl, by omega⟩]
      · rw [ax_u_nj hz, ih]
        by_cases hz2 : z < n
        · rw [if_pos ⟨rfl, hz2⟩, if_pos ⟨rfl, by omega⟩]
        · rw [if_neg (fun y => hz2 y.2), if_neg (fun y => hz2 (by have := y.2; omega))]
    · rw [ax_u_ne hq, ih, if_neg (fun y => hq y.1), if_neg (fun y => hq y.1)]
theorem og_sm {F R : Nat → Int64} {x y : Nat} : ∀ n, ax_sm F R x y n = decide (∀ k, k < n → F (x - 1 - k) = R (y - 1 - k)) := by
  intro n
  induction n with
  | zero => exact (decide_eq_true (fun k h => absurd h (Nat.not_lt_zero _))).symm
  | succ n ih =>
    show (ax_sm F R x y n && decide (F (x - 1 - n) = R (y - 1 - n))) = _
    rw [ih]
    by_cases c : ∀ k, k < n → F (x - 1 - k) = R (y - 1 - k)
    · rw [decide_eq_true c, Bool.true_and]
      by_cases d : F (x - 1 - n) = R (y - 1 - n)
      · rw [decide_eq_true d, decide_eq_true (fun k hk => by
          by_cases e : k = n
          · rw [e]; exact d
          · exact c k (by omega))]
      · rw [decide_eq_false d, decide_eq_false (fun z => d (z n (by omega)))]
    · rw [decide_eq_false c, Bool.false_and, decide_eq_false (fun z => c (fun k hk => z k (by omega)))]
/-- the two rings of two groups, worked out one behind the other, in both -/
theorem rl_two {G : ax_G} {I : ax_I} {L : ax_L} {gn gc : Nat → Nat} {g k : Nat} (h : rl_Rel G I L) (r2 : rl_St 1 I (I 640)) (hsn : ∀ g, g < 6 → I 640 (14 * g) = nI (gn g) ∧ gn g ≤ 3) (hsc : ∀ g, g < 6 → I 640 (14 * g + 1) = nI (gc g) ∧ gc g ≤ 4) (hg : g < 6) (hk : k < 6) :
    ∃ r s : Nat → Nat, (∀ i j, i < j → j < 3 → r i ∣ r j) ∧ (∀ i j, i < j → j < 3 → s i ∣ s j) ∧ (∃ B, 0 < B ∧ B ≤ 4374 ∧ og_b B 3 r) ∧ (∃ B, 0 < B ∧ B ≤ 4374 ∧ og_b B 3 s) ∧
      og_at (ax_wrL (ax_wrI I 0 g 615 gn) (ax_wrL I L 0 g 616 gn gc) 0 k 618 gn gc) 616 (gn g) r ∧ og_at (ax_wrL (ax_wrI I 0 g 615 gn) (ax_wrL I L 0 g 616 gn gc) 0 k 618 gn gc) 618 (gn k) s ∧ (∀ q, (q < 599 ∨ 605 < q) → q ≠ 616 → q ≠ 618 → ax_wrL (ax_wrI I 0 g 615 gn) (ax_wrL I L 0 g 616 gn gc) 0 k 618 gn gc q = L q) ∧
      ∀ M, ∃ Y Z, ax_R1 639 g (gc g) (gn g) gr_F (I 640) M = some Y ∧ ax_R1 639 k (gc k) (gn k) gr_F (I 640) (ax_c1 652 653 (gn g) Y) = some Z ∧ (∀ q, q ≠ 651 → q ≠ 652 → q ≠ 653 → Z q = M q) ∧ og_at Y 652 (gn g) r ∧ og_at Z 653 (gn g) r ∧ og_at Z 652 (gn k) s := by
  obtain ⟨r, a1, a2, -, -, -, a6, a7⟩ := rl_rings r2 hsn hsc hg
  obtain ⟨s, b1, b2, -, -, -, b6, b7⟩ := rl_rings r2 hsn hsc hk
  obtain ⟨c1, c2⟩ := a7 I r2 L 616 (by omega)
  have h' : rl_Rel G (ax_wrI I 0 g 615 gn) L := h.work (fun q hq => rl_wrI_ne (by omega) (by omega)) (fun z hz => by rw [rl_wrI_ne (by omega) (by omega)]) (fun q hq => rfl)
  have r2' : rl_St 1 (ax_wrI I 0 g 615 gn) (I 640) := by
    have := h'.2.1
    rw [rl_wrI_ne (q := 640) (by omega) (by omega)] at this; exact this
  obtain ⟨d1, d2⟩ := b7 (ax_wrI I 0 g 615 gn) r2' (ax_wrL I L 0 g 616 gn gc) 618 (by omega)
  refine ⟨r, s, a1, b1, a2, b2, fun i hi => by rw [d2 616 (by omega) (by omega)]; exact c1 i hi, d1, fun q h1 h2 h3 => (d2 q h1 h3).trans (c2 q h1 h2), fun M => ?_⟩
  obtain ⟨Y, y1, y2, y3⟩ := a6 M
  obtain ⟨Z, z1, z2, z3⟩ := b6 (ax_c1 652 653 (gn g) Y)
  have ce : ∀ q, q ≠ 653 → ax_c1 652 653 (gn g) Y q = Y q := fun q hq => by funext z; rw [og_c1c (by omega), if_neg (fun y => hq y.1)]
  refine ⟨Y, Z, y1, z1, fun q q1 q2 q3 => ?_, y3, fun i hi => ?_, z3⟩
  · rw [z2 q q1 q2, ce q q3, y2 q q1 q2]
  · rw [z2 653 (by omega) (by omega), og_c1c (by omega), if_pos ⟨rfl, hi⟩]; exact y3 i hi
/-- ones come first -/
theorem og_ones {H : Nat → Int64} {f : Nat → Nat} {q : Nat} (hH : ∀ k, k < q → H k = Int64.ofInt (f k : Int)) (hl : ∀ k, k < q → f k < 9223372036854775808) (hc : ∀ i j, i < j → j < q → f i ∣ f j) : ∀ i j, i < j → j < q → H j = 1 → H i = 1 := by
  intro i j hij hj h1
  have e1 : (1 : Int64) = Int64.ofInt ((1 : Nat) : Int) := rfl
  rw [hH j hj, e1] at h1
  have e2 := mt_inj (og_okN (hl j hj)) (og_okN (by decide)) h1
  have e3 : f j = 1 := by omega
  have e4 := hc i j hij hj
  rw [e3] at e4
  rw [hH i (by omega), Nat.dvd_one.mp e4, e1]
set_option maxRecDepth 20000 in
theorem rl_7 (l : Launch) (D : va_G) (T : Nat → ClassId) (o : Nat) : law_P7 l D T o 1000 rl_Rel 0 639 := by
  intro x G I L h
  obtain ⟨r1, r2, -⟩ := id h
  have hbR : (ax_in3 (x 1).toInt64 0 5 && ax_in3 (x 2).toInt64 0 5) = false → ax_rng (x 1) 6 = false ∨ ax_rng (x 2) 6 = false := fun hh => by
    rw [rl_rng6, rl_rng6]
    cases h1 : ax_in3 (x 1).toInt64 0 5 with
    | false => exact Or.inl rfl
    | true => rw [h1, Bool.true_and] at hh; exact Or.inr hh
  cases hb : (ax_in3 (x 1).toInt64 0 5 && ax_in3 (x 2).toInt64 0 5) with
  | false => exact ay_PI.mk (k_X10_same_bad l D T o 1000 G I L 0 (x 1) (x 2) r1.1 (hbR hb) (by omega)) (k_X11_same_bad l D T o 1000 G I L 639 (x 1) (x 2) r1.2.1 (by omega) hb) rfl h
  | true =>
    rw [Bool.and_eq_true] at hb
    obtain ⟨g, hg', eg⟩ := ax_in3_nat (h := 5) (by omega) hb.1
    obtain ⟨k, hk', ek⟩ := ax_in3_nat (h := 5) (by omega) hb.2
    have hg : g < 6 := by omega
    have hk : k < 6 := by omega
    obtain ⟨gn, gc, hgn, hgc, hsn, hsc⟩ := rl_gngc r2
    rw [eg, ek]
    obtain ⟨r, s, cr, cs, ⟨Br, Br1, Br2, Br3⟩, ⟨Bs, Bs1, Bs2, Bs3⟩, w1, w2, w3, ref⟩ := rl_two h r2 hsn hsc hg hk
    generalize hW : ax_wrL (ax_wrI I 0 g 615 gn) (ax_wrL I L 0 g 616 gn gc) 0 k 618 gn gc = W at w1 w2 w3
    obtain ⟨Y, Z, y1, z1, z2, y3, z4, z5⟩ := ref W
    have hg3 := (hsn g hg).2
    have hk3 := (hsn k hk).2
    have J640 : ax_samI I 0 g k gn 640 = I 640 := by unfold ax_samI; rw [rl_wrI_ne (by omega) (by omega), rl_wrI_ne (by omega) (by omega)]
    have K1 := k_X10_same l D T o 1000 G I L 0 g k gn gc r1.1 hgn hgc hg hk (by omega)
    have eL : ax_samL I L 0 g k gn gc = W := hW
    have eV : ax_samv I L 0 g k gn gc = if ax_hso (W 616) (W 618) (gn g) (gn k) = true then nI 1 else nI 0 := by rw [← hW]; rfl
    rw [eL, eV] at K1
    have K2 := k_X11_same l D T o 1000 G (ax_samI I 0 g k gn) W 639 g k (gc g) (gn g) (gc k) (gn k) gr_F (I 640) Y Z r1.2.1 J640 hg (hsn g hg).1 hg3 (hsc g hg).1 (hsc g hg).2 hk (hsn k hk).1 hk3 (hsc k hk).1 (hsc k hk).2 y1 z1 (fun n => by funext z; rw [og_c1c (by omega), if_neg (fun y => by have := y.1; omega)]) (by omega)
    refine ay_PI.mk K1 K2 ?_ ?_
    · have Hr := og_ones w1 (fun i hi => Br3.lt Br1 (by omega) (by omega)) (fun i j hij hj => cr i j hij (by omega))
      have Hs := og_ones w2 (fun i hi => Bs3.lt Bs1 (by omega) (by omega)) (fun i j hij hj => cs i j hij (by omega))
      have e1 : ax_ow (Y 652) (gn g) = ax_cn (W 616) (gn g) := by rw [og_cn]; exact og_ow_cg _ (fun i hi => by rw [y3 i hi, w1 i hi])
      have e2 : ax_ow (Z 652) (gn k) = ax_cn (W 618) (gn k) := by rw [og_cn]; exact og_ow_cg _ (fun i hi => by rw [z5 i hi, w2 i hi])
      show (if ax_hso (W 616) (W 618) (gn g) (gn k) = true then nI 1 else nI 0) = ax_b (decide (ax_ow (Y 652) (gn g) = ax_ow (Z 652) (gn k)) && ax_sm (Z 653) (Z 652) (gn g) (gn k) (ax_ow (Y 652) (gn g)))
      rw [e1, e2, og_sm]
      have lr := ax_cn_le (W 616) (gn g)
      have ls := ax_cn_le (W 618) (gn k)
      unfold ax_hso
      by_cases c : ax_cn (W 616) (gn g) = ax_cn (W 618) (gn k)
      · rw [decide_eq_true c, Bool.true_and]
        have iff : (∀ j, j < ax_cn (W 616) (gn g) → ax_owc (W 616) (gn g) j = ax_owc (W 618) (gn k) j) ↔ ∀ i, i < ax_cn (W 616) (gn g) → Z 653 (gn g - 1 - i) = Z 652 (gn k - 1 - i) := by
          have ow1 : ∀ j, j < ax_cn (W 616) (gn g) → ax_owc (W 616) (gn g) j = W 616 (gn g - ax_cn (W 616) (gn g) + j) := fun j hj => if_pos (by omega)
          have ow2 : ∀ j, j < ax_cn (W 616) (gn g) → ax_owc (W 618) (gn k) j = W 618 (gn k - ax_cn (W 616) (gn g) + j) := fun j hj => by unfold ax_owc; rw [← c]; exact if_pos (by omega)
          refine ⟨fun z i hi => ?_, fun z j hj => ?_⟩
          · have := z (ax_cn (W 616) (gn g) - 1 - i) (by omega)
            rw [ow1 _ (by omega), ow2 _ (by omega), show gn g - ax_cn (W 616) (gn g) + (ax_cn (W 616) (gn g) - 1 - i) = gn g - 1 - i by omega, show gn k - ax_cn (W 616) (gn g) + (ax_cn (W 616) (gn g) - 1 - i) = gn k - 1 - i by omega] at this
            rw [z4 _ (by omega), z5 _ (by omega), ← w1 _ (by omega), ← w2 _ (by omega)]; exact this
          · have := z (ax_cn (W 616) (gn g) - 1 - j) (by omega)
            rw [z4 _ (by omega), z5 _ (by omega), ← w1 _ (by omega), ← w2 _ (by omega)] at this
            rw [ow1 j hj, ow2 j hj, show gn g - ax_cn (W 616) (gn g) + j = gn g - 1 - (ax_cn (W 616) (gn g) - 1 - j) by omega, show gn k - ax_cn (W 616) (gn g) + j = gn k - 1 - (ax_cn (W 616) (gn g) - 1 - j) by omega]; exact this
        by_cases d : ∀ j, j < ax_cn (W 616) (gn g) → ax_owc (W 616) (gn g) j = ax_owc (W 618) (gn k) j
        · rw [if_pos (decide_eq_true ⟨c, d⟩), decide_eq_true (iff.mp d)]; rfl
        · rw [if_neg (fun y => d (of_decide_eq_true y).2), decide_eq_false (fun y => d (iff.mpr y))]; rfl
      · rw [decide_eq_false c, Bool.false_and, if_neg (fun y => c (of_decide_eq_true y).1)]; rfl
    · refine h.work (fun q hq => ?_) (fun z hz => ?_) (fun q hq => ?_)
      · rw [ax_RI_ne (by omega), ax_KI_ne (by omega)]
        unfold ax_samI; rw [rl_wrI_ne (by omega) (by omega), rl_wrI_ne (by omega) (by omega)]
      · rw [ax_RI_o (by omega) (by omega) (by omega)]
        unfold ax_KI
        rw [ax_u_nj (by omega), ax_RI_o (by omega) (by omega) (by omega)]
        unfold ax_samI; rw [rl_wrI_ne (by omega) (by omega), rl_wrI_ne (by omega) (by omega)]
      · rw [z2 q (by omega) (by omega) (by omega), w3 q (by omega) (by omega) (by omega)]
