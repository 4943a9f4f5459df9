/-! ===== is a map well, in both ===== -/
theorem rl_aptx {I : ax_I} {t b x y : Nat} {L : ax_L} (h : x ≠ y) : ∀ n q z, ax_apt I t b x y L n q z = if q = y ∧ z < n then L x 0 * (I t (b + 3 * 0 + z)).toInt64 + L x 1 * (I t (b + 3 * 1 + z)).toInt64 + L x 2 * (I t (b + 3 * 2 + z)).toInt64 else L q z := by
  intro n
  induction n with
  | zero => intro q z; rw [if_neg (by omega)]; rfl
  | succ n ih =>
    intro q z
    show ax_u (ax_apt I t b x y L n) y n (0 + ax_apt I t b x y L n x 0 * (I t (b + 3 * 0 + n)).toInt64 + ax_apt I t b x y L n x 1 * (I t (b + 3 * 1 + n)).toInt64 + ax_apt I t b x y L n x 2 * (I t (b + 3 * 2 + n)).toInt64) q z = _
    have e1 : ∀ j, ax_apt I t b x y L n x j = L x j := fun j => by rw [ih, if_neg (fun z => h z.1)]
    rw [e1, e1, e1, Int64.zero_add]
    by_cases hq : q = y
    · subst hq
      by_cases hz : z = n
      · subst hz; rw [ax_u_at, if_pos ⟨rfl, by omega⟩]
      · rw [ax_u_nj hz, ih]
        by_cases hz2 : z < n
        · rw [if_pos ⟨rfl, hz2⟩, if_pos ⟨rfl, by omega⟩]
        · rw [if_neg (fun y => hz2 y.2), if_neg (fun y => hz2 (by have := y.2; omega))]
    · rw [ax_u_ne hq, ih, if_neg (fun y => hq y.1), if_neg (fun y => hq y.1)]
theorem rl_rre {I : ax_I} {a x g j : Nat} {L : ax_L} : ∀ n q z, ax_rre I a x g j n L q z = if q = x ∧ z < n then (I (a + 3) ((g * 4 + j) * 3 + z)).toInt64 else L q z := by
  intro n
  induction n with
  | zero => intro q z; rw [if_neg (by omega)]; rfl
  | succ n ih =>
    intro q z
    show ax_u (ax_rre I a x g j n L) x n ((I (a + 3) ((g * 4 + j) * 3 + n)).toInt64) q z = _
    by_cases hq : q = x
    · subst hq
      by_cases hz : z = n
      · subst hz; rw [ax_u_at, if_pos ⟨rfl, by omega⟩]
      · rw [ax_u_nj hz, ih]
        by_cases hz2 : z < n
        · rw [if_pos ⟨rfl, hz2⟩, if_pos ⟨rfl, by omega⟩]
        · rw [if_neg (fun y => hz2 y.2), if_neg (fun y => hz2 (by have := y.2; omega))]
    · rw [ax_u_ne hq, ih, if_neg (fun y => hq y.1), if_neg (fun y => hq y.1)]
theorem rl_all0 {L : ax_L} {r : Nat} : ax_all0 L r 0 3 = true ↔ ∀ z, z < 3 → L r z = 0 := by
  show (((true && decide (L r 0 = 0)) && decide (L r 1 = 0)) && decide (L r 2 = 0)) = true ↔ _
  rw [Bool.true_and, Bool.and_eq_true, Bool.and_eq_true, decide_eq_true_eq, decide_eq_true_eq, decide_eq_true_eq]
  refine ⟨fun h z hz => ?_, fun h => ⟨⟨h 0 (by omega), h 1 (by omega)⟩, h 2 (by omega)⟩⟩
  rcases (show z = 0 ∨ z = 1 ∨ z = 2 by omega) with rfl | rfl | rfl
  · exact h.1.1
  · exact h.1.2
  · exact h.2
set_option maxRecDepth 20000 in
theorem rl_rrs {J : ax_I} {S : Nat → Int32} {B : Nat → Nat → Int} {k p x v c : Nat} (hx : x ≤ 3) (hv : v ≤ 3) (hl : ∀ k, k < v → mt_ok (B k k) ∧ 0 ≤ B k k) (hB : ∀ k j, k < v → v ≤ j → B k j = 0)
    (hr : ∀ r i, r < c → i < 3 → J 4 (12 * p + 3 * r + i) = if i < x then S (14 * p + 2 + 3 * r + i) else 0) (ht : ∀ i, i < 9 → J 7 (9 * k + i) = S (84 + 11 * k + 2 + i)) :
    ∀ n j Lc Lr, j + n = c → mt_lat Lc 493 B → mt_at Lr 648 B →
      (ax_rrs J 1 k 493 538 539 v p n j Lc).1 = (ax_wlf S 639 k p x v n j Lr).1 ∧ (∀ q, q ≠ 538 → q ≠ 539 → (ax_rrs J 1 k 493 538 539 v p n j Lc).2 q = Lc q) ∧ ∀ q, q ≠ 649 → q ≠ 650 → (ax_wlf S 639 k p x v n j Lr).2 q = Lr q := by
  intro n
  induction n with
  | zero => exact fun j Lc Lr _ _ _ => ⟨rfl, fun _ _ _ => rfl, fun _ _ _ => rfl⟩
  | succ n ih =>
    intro j Lc Lr hj hc hA
    have u1 : ax_rrs J 1 k 493 538 539 v p (n + 1) j Lc = if (ax_sz ((ax_rfo 493 539 v 0 v (ax_apt J 7 (9 * k) 538 539 (ax_rre J 1 538 p j 3 Lc) 3)) 539) v) = true then ax_rrs J 1 k 493 538 539 v p n (j + 1) (ax_rfo 493 539 v 0 v (ax_apt J 7 (9 * k) 538 539 (ax_rre J 1 538 p j 3 Lc) 3)) else (false, ax_rfo 493 539 v 0 v (ax_apt J 7 (9 * k) 538 539 (ax_rre J 1 538 p j 3 Lc) 3)) := rfl
    have u2 : ax_wlf S 639 k p x v (n + 1) j Lr = bif ax_all0 (ax_ws1 S 639 k p x v j Lr) 649 0 3 then ax_wlf S 639 k p x v n (j + 1) (ax_ws1 S 639 k p x v j Lr) else (false, ax_ws1 S 639 k p x v j Lr) := rfl
    have h1 : mt_lat (ax_apt J 7 (9 * k) 538 539 (ax_rre J 1 538 p j 3 Lc) 3) 493 B := fun k' j' a b => by
      rw [rl_aptx (by omega), if_neg (by omega), rl_rre, if_neg (by omega)]; exact hc k' j' a b
    have w1 : ax_ws1 S 639 k p x v j Lr = ax_rs 649 648 0 v (ax_st 649 v (ax_im S (ax_st 650 x (S (14 * p + 2 + 3 * j)).toInt64 (S (14 * p + 2 + 3 * j + 1)).toInt64 (S (14 * p + 2 + 3 * j + 2)).toInt64 Lr 650) k 0 x) (ax_im S (ax_st 650 x (S (14 * p + 2 + 3 * j)).toInt64 (S (14 * p + 2 + 3 * j + 1)).toInt64 (S (14 * p + 2 + 3 * j + 2)).toInt64 Lr 650) k 1 x) (ax_im S (ax_st 650 x (S (14 * p + 2 + 3 * j)).toInt64 (S (14 * p + 2 + 3 * j + 1)).toInt64 (S (14 * p + 2 + 3 * j + 2)).toInt64 Lr 650) k 2 x) (ax_st 650 x (S (14 * p + 2 + 3 * j)).toInt64 (S (14 * p + 2 + 3 * j + 1)).toInt64 (S (14 * p + 2 + 3 * j + 2)).toInt64 Lr)) := rfl
    have hrow : ∀ i, i < 3 → i < x → ax_st 650 x (S (14 * p + 2 + 3 * j)).toInt64 (S (14 * p + 2 + 3 * j + 1)).toInt64 (S (14 * p + 2 + 3 * j + 2)).toInt64 Lr 650 i = (S (14 * p + 2 + 3 * j + i)).toInt64 := fun i hi hix => by
      rw [rl_st hi, if_pos hix]
      rcases (show i = 0 ∨ i = 1 ∨ i = 2 by omega) with rfl | rfl | rfl <;> rfl
    generalize hq : ax_st 650 x (S (14 * p + 2 + 3 * j)).toInt64 (S (14 * p + 2 + 3 * j + 1)).toInt64 (S (14 * p + 2 + 3 * j + 2)).toInt64 Lr = L6 at w1 hrow
    have q6 : ∀ q, q ≠ 650 → L6 q = Lr q := fun q h => by rw [← hq, rl_st_ne h]
    have h2 : mt_at (ax_st 649 v (ax_im S (L6 650) k 0 x) (ax_im S (L6 650) k 1 x) (ax_im S (L6 650) k 2 x) L6) 648 B := fun k' j' a b => by
      rw [rl_st_ne (by omega), q6 _ (by omega)]; exact hA k' j' a b
    have hcl : ∀ z, z < 3 → ax_apt J 7 (9 * k) 538 539 (ax_rre J 1 538 p j 3 Lc) 3 539 z = ax_im S (L6 650) k z x := fun z hz => by
      have e : ∀ i, i < 3 → ax_rre J 1 538 p j 3 Lc 538 i * (J 7 (9 * k + 3 * i + z)).toInt64 = if i < x then L6 650 i * (S (84 + 11 * k + 2 + 3 * i + z)).toInt64 else 0 := fun i hi => by
        have t1 := ht (3 * i + z) (by omega)
        rw [← Nat.add_assoc, ← Nat.add_assoc] at t1
        rw [rl_rre, if_pos ⟨rfl, hi⟩, t1, show (p * 4 + j) * 3 + i = 12 * p + 3 * j + i by omega, hr j i (by omega) hi]
        by_cases c : i < x
        · rw [if_pos c, if_pos c, hrow i hi c]
        · rw [if_neg c, if_neg c]
          show (0 : Int64) * _ = 0
          exact Int64.zero_mul
      rw [rl_aptx (by omega), if_pos ⟨rfl, hz⟩, e 0 (by omega), e 1 (by omega), e 2 (by omega)]
      rcases (show x = 0 ∨ x = 1 ∨ x = 2 ∨ x = 3 by omega) with e0 | e0 | e0 | e0
      · rw [e0]; rfl
      · rw [e0]
        show L6 650 0 * (S (84 + 11 * k + 2 + 3 * 0 + z)).toInt64 + 0 + 0 = 0 + L6 650 0 * (S (84 + 11 * k + 2 + 3 * 0 + z)).toInt64
        rw [Int64.add_zero, Int64.add_zero, Int64.zero_add]
      · rw [e0]
        show L6 650 0 * (S (84 + 11 * k + 2 + 3 * 0 + z)).toInt64 + L6 650 1 * (S (84 + 11 * k + 2 + 3 * 1 + z)).toInt64 + 0 = 0 + L6 650 0 * (S (84 + 11 * k + 2 + 3 * 0 + z)).toInt64 + L6 650 1 * (S (84 + 11 * k + 2 + 3 * 1 + z)).toInt64
        rw [Int64.add_zero, Int64.zero_add]
      · rw [e0]
        show L6 650 0 * (S (84 + 11 * k + 2 + 3 * 0 + z)).toInt64 + L6 650 1 * (S (84 + 11 * k + 2 + 3 * 1 + z)).toInt64 + L6 650 2 * (S (84 + 11 * k + 2 + 3 * 2 + z)).toInt64 = 0 + L6 650 0 * (S (84 + 11 * k + 2 + 3 * 0 + z)).toInt64 + L6 650 1 * (S (84 + 11 * k + 2 + 3 * 1 + z)).toInt64 + L6 650 2 * (S (84 + 11 * k + 2 + 3 * 2 + z)).toInt64
        rw [Int64.zero_add]
    obtain ⟨a1, a2, a3, a4⟩ := mt_alike (a := 493) (q := 539) (r := 649) (t := 648) (w := v) (B := B) (by omega) (by omega) (by omega) h1 h2 hl 0 v (by omega) (fun z hz => by
      rw [hcl z (by omega), rl_st (by omega), if_pos hz]
      rcases (show z = 0 ∨ z = 1 ∨ z = 2 by omega) with rfl | rfl | rfl <;> rfl)
    have a5 : ∀ z, v ≤ z → z < 3 → ax_ws1 S 639 k p x v j Lr 649 z = 0 := fun z h3 h4 => by
      rw [w1, mt_rs0 (w := v) (by omega) h2 hl (by omega) (by omega) (fun k' hk' => hB k' z hk' h3) v (by omega), rl_st (by omega), if_neg (by omega)]
    rw [← w1] at a1 a3
    generalize ax_rfo 493 539 v 0 v (ax_apt J 7 (9 * k) 538 539 (ax_rre J 1 538 p j 3 Lc) 3) = C1 at u1 a1 a2
    generalize ax_ws1 S 639 k p x v j Lr = R1 at u2 a1 a3 a5
    have hb : ax_sz (C1 539) v = ax_all0 R1 649 0 3 := by
      rw [Bool.eq_iff_iff, rl_all0]
      unfold ax_sz
      rw [decide_eq_true_eq]
      refine ⟨fun h z hz => ?_, fun h z hz => (a1 z hz).trans (h z (by omega))⟩
      by_cases c : z < v
      · exact (a1 z c).symm.trans (h z c)
      · exact a5 z (by omega) hz
    have f1 : ∀ q, q ≠ 538 → q ≠ 539 → C1 q = Lc q := fun q b1 b2 => by
      rw [a2 q b2]; funext z; rw [rl_aptx (by omega), if_neg (fun y => b2 y.1), rl_rre, if_neg (fun y => b1 y.1)]
    have f2 : ∀ q, q ≠ 649 → q ≠ 650 → R1 q = Lr q := fun q b1 b2 => by rw [a3 q b1, rl_st_ne b1, q6 q b2]
    rw [hb] at u1
    cases hh : ax_all0 R1 649 0 3 with
    | false =>
      rw [hh] at u1 u2
      rw [u1, u2]
      exact ⟨rfl, f1, f2⟩
    | true =>
      rw [hh] at u1 u2
      rw [if_pos rfl] at u1
      obtain ⟨i1, i2, i3⟩ := ih (j + 1) C1 R1 (by omega) (fun k' j' a b => by rw [f1 _ (by omega) (by omega)]; exact hc k' j' a b) (fun k' j' a b => by rw [f2 _ (by omega) (by omega)]; exact hA k' j' a b)
      rw [u1, u2]
      exact ⟨i1, fun q b1 b2 => (i2 q b1 b2).trans (f1 q b1 b2), fun q b1 b2 => (i3 q b1 b2).trans (f2 q b1 b2)⟩
set_option maxRecDepth 20000 in
/-- a map is well alike -/
theorem rl_well {J : ax_I} {S : Nat → Int32} {gn gc : Nat → Nat} {k p r x y : Nat} {Lc Lr : ax_L} (hSt : rl_St 1 J S) (hsn : ∀ g, g < 6 → S (14 * g) = nI (gn g) ∧ gn g ≤ 3) (hsc : ∀ g, g < 6 → S (14 * g + 1) = nI (gc g) ∧ gc g ≤ 4) (hM : ax_Mp S k p r x y) (ht : ∀ i, i < 9 → J 7 (9 * k + i) = S (84 + 11 * k + 2 + i)) :
    ax_ldv J Lc 483 1 k p r (gn p) (gc p) (gn r) (gc r) = (ax_wl 639 k p r (gn p) (gn r) (gc p) (gc r) S Lr).1 ∧ (∀ q, (q < 486 ∨ 539 < q) → ax_ldL J Lc 483 1 k p r (gn p) (gc p) (gn r) (gc r) q = Lc q) ∧ ∀ q, q ≠ 643 → q ≠ 648 → q ≠ 649 → q ≠ 650 → (ax_wl 639 k p r (gn p) (gn r) (gc p) (gc r) S Lr).2 q = Lr q := by
  obtain ⟨m1, m2, m3, -⟩ := hM
  have hS2 : rl_St 1 (ax_u J 484 2 (nI (gn p))) S := hSt.keep (by rw [ax_u_ne (by omega)]) (fun q h1 h2 => ax_u_ne (by omega)) (fun _ _ => rfl)
  obtain ⟨a1, a2, a3⟩ := rl_nth (x := 484) hSt hsn hsc m2 (by omega) Lc
  obtain ⟨b1, b2, b3⟩ := rl_nth (x := 493) hS2 hsn hsc m3 (by omega) (ax_nth J 1 484 p (gn p) (gc p) Lc)
  obtain ⟨t1, t2⟩ := rl_N1t (t := 648) hSt.2.1 hsn hsc m3 (by omega) (by omega)
  obtain ⟨t3, t4, t5⟩ := t2 Lr
  obtain ⟨c1, c2, c3⟩ := rl_rrs (J := ax_u (ax_u J 484 2 (nI (gn p))) 493 2 (nI (gn r))) (S := S) (B := mt_N S gn gc r) (k := k) (p := p) (x := gn p) (v := gn r) (c := gc p) (hsn p m2).2 (hsn r m3).2 t5 (fun k' j' h1 h2 => b2.1.2.2.2.2 k' j' h1 h2) (fun r' i h1 h2 => by
      have := (hsc p m2).2
      have h3 := hSt.1.2.1 p r' i m2 (by omega) h2 (by rw [(hsc p m2).1, nI_clamp (by omega)]; exact h1)
      rw [(hsn p m2).1, nI_clamp (by have := (hsn p m2).2; omega)] at h3
      rw [ax_u_ne (by omega), ax_u_ne (by omega)]; exact h3) (fun i hi => by rw [ax_u_ne (by omega), ax_u_ne (by omega)]; exact ht i hi)
    (gc p) 0 (ax_nth (ax_u J 484 2 (nI (gn p))) 1 493 r (gn r) (gc r) (ax_nth J 1 484 p (gn p) (gc p) Lc)) (ax_N1t 639 r 648 (gn r) (gc r) S Lr) (by omega) b1 t3
  exact ⟨c1, fun q hq => (c2 q (by omega) (by omega)).trans ((b3 q (by omega)).trans (a3 q (by omega))), fun q q1 q2 q3 q4 => (c3 q q3 q4).trans (t4 q q1 q2 q3)⟩
theorem rl_Rel.work2 {G : ax_G} {I J : ax_I} {L M : ax_L} (h : rl_Rel G I L) (hJ : ∀ q, (q < 483 ∨ (540 ≤ q ∧ q ≠ 639 ∧ q ≠ 597 ∧ q ≠ 606 ∧ q ≠ 615 ∧ q ≠ 617 ∧ q ≠ 619)) → J q = I q) (hj : ∀ z, (z = 3 ∨ z = 4 ∨ z = 29) → J 639 z = I 639 z) (hM : ∀ q, ((623 ≤ q ∧ q < 639) ∨ q = 669 ∨ q = 672) → M q = L q) : rl_Rel G J M :=
  h.keep (by rw [hJ 0 (by omega)]) (fun q _ _ => hJ q (by omega)) (by rw [hJ 311 (by omega)]) (hJ 312 (by omega)) (fun q _ _ => hJ q (by omega)) (hj 3 (by omega)) (hj 4 (by omega)) (hj 29 (by omega)) (fun q _ _ => hJ q (by omega)) (hJ 657 (by omega)) (fun q _ _ => hJ q (by omega)) (fun q h1 h2 => hM q (by omega)) (hM 669 (by omega)) (hM 672 (by omega))
theorem rl_bit : ∀ n, n < 8 → ∀ m, m < 2 ^ n → nI m ||| ((nI 1) <<< (nI n &&& 31)) = nI (m + 2 ^ n) ∧ nI m + ((nI 1) <<< (nI n &&& 31)) = nI (m + 2 ^ n) := by decide +kernel
/-- the maps by numbers -/
theorem rl_mf {I : ax_I} {S : Nat → Int32} (h : rl_St 1 I S) : ∃ fr tg : Nat → Nat, ∀ f, f < 8 → (I 5 f = -1 ∧ S (84 + 11 * f) < 0) ∨ (∃ x y, ax_Mp S f (fr f) (tg f) x y ∧ I 5 f = nI (fr f) ∧ I 6 f = nI (tg f) ∧ ∀ i, i < 9 → I 7 (9 * f + i) = S (84 + 11 * f + 2 + i)) := by
  refine ⟨fun f => (S (84 + 11 * f)).toNatClampNeg, fun f => (S (84 + 11 * f + 1)).toNatClampNeg, fun f hf => ?_⟩
  dsimp only
  obtain ⟨q1, q2, q3⟩ := h.1.2.2.1 f hf
  rcases h.2.2.1 f hf with e | ⟨p, r, x, y, hM, -⟩
  · exact Or.inl ⟨q1.trans e, by rw [e]; decide⟩
  · refine Or.inr ⟨x, y, ?_⟩
    obtain ⟨m1, m2, m3, m4, m5, m6, m7, m8, m9⟩ := id hM
    obtain ⟨q4, q5⟩ := q3 (by rw [m6]; exact rl_m1 (by omega))
    rw [m6, m7, nI_clamp (by omega), nI_clamp (by omega)]
    exact ⟨hM, q1.trans m6, q4.trans m7, q5⟩
