/-! ===== is a map well, at any MapWork; what load leaves ===== -/
set_option maxRecDepth 20000 in
theorem rl_rrsA {aa : Nat} {J : ax_I} {S : Nat → Int32} {B : Nat → Nat → Int} {k p x v c : Nat} (hx : x ≤ 3) (hv : v ≤ 3) (hl : ∀ k, k < v → mt_ok (B k k) ∧ 0 ≤ B k k) (hB : ∀ k j, k < v → v ≤ j → B k j = 0)
    (hr : ∀ r i, r < c → i < 3 → J 4 (12 * p + 3 * r + i) = if i < x then S (14 * p + 2 + 3 * r + i) else 0) (ht : ∀ i, i < 9 → J 7 (9 * k + i) = S (84 + 11 * k + 2 + i)) :
    ∀ n j Lc Lr, j + n = c → mt_lat Lc (aa + 10) B → mt_at Lr 648 B →
      (ax_rrs J 1 k (aa + 10) (aa + 55) (aa + 56) v p n j Lc).1 = (ax_wlf S 639 k p x v n j Lr).1 ∧ (∀ q, q ≠ (aa + 55) → q ≠ (aa + 56) → (ax_rrs J 1 k (aa + 10) (aa + 55) (aa + 56) v p n j Lc).2 q = Lc q) ∧ ∀ q, q ≠ 649 → q ≠ 650 → (ax_wlf S 639 k p x v n j Lr).2 q = Lr q := by
  intro n
  induction n with
  | zero => exact fun j Lc Lr _ _ _ => ⟨rfl, fun _ _ _ => rfl, fun _ _ _ => rfl⟩
  | succ n ih =>
    intro j Lc Lr hj hc hA
    have u1 : ax_rrs J 1 k (aa + 10) (aa + 55) (aa + 56) v p (n + 1) j Lc = if (ax_sz ((ax_rfo (aa + 10) (aa + 56) v 0 v (ax_apt J 7 (9 * k) (aa + 55) (aa + 56) (ax_rre J 1 (aa + 55) p j 3 Lc) 3)) (aa + 56)) v) = true then ax_rrs J 1 k (aa + 10) (aa + 55) (aa + 56) v p n (j + 1) (ax_rfo (aa + 10) (aa + 56) v 0 v (ax_apt J 7 (9 * k) (aa + 55) (aa + 56) (ax_rre J 1 (aa + 55) p j 3 Lc) 3)) else (false, ax_rfo (aa + 10) (aa + 56) v 0 v (ax_apt J 7 (9 * k) (aa + 55) (aa + 56) (ax_rre J 1 (aa + 55) p j 3 Lc) 3)) := rfl
    have u2 : ax_wlf S 639 k p x v (n + 1) j Lr = bif ax_all0 (ax_ws1 S 639 k p x v j Lr) 649 0 3 then ax_wlf S 639 k p x v n (j + 1) (ax_ws1 S 639 k p x v j Lr) else (false, ax_ws1 S 639 k p x v j Lr) := rfl
    have h1 : mt_lat (ax_apt J 7 (9 * k) (aa + 55) (aa + 56) (ax_rre J 1 (aa + 55) p j 3 Lc) 3) (aa + 10) B := fun k' j' a b => by
      rw [rl_aptx (by omega), if_neg (by omega), rl_rre, if_neg (by omega)]; exact hc k' j' a b
    have w1 : ax_ws1 S 639 k p x v j Lr = ax_rs 649 648 0 v (ax_st 649 v (ax_im S (ax_st 650 x (S (14 * p + 2 + 3 * j)).toInt64 (S (14 * p + 2 + 3 * j + 1)).toInt64 (S (14 * p + 2 + 3 * j + 2)).toInt64 Lr 650) k 0 x) (ax_im S (ax_st 650 x (S (14 * p + 2 + 3 * j)).toInt64 (S (14 * p + 2 + 3 * j + 1)).toInt64 (S (14 * p + 2 + 3 * j + 2)).toInt64 Lr 650) k 1 x) (ax_im S (ax_st 650 x (S (14 * p + 2 + 3 * j)).toInt64 (S (14 * p + 2 + 3 * j + 1)).toInt64 (S (14 * p + 2 + 3 * j + 2)).toInt64 Lr 650) k 2 x) (ax_st 650 x (S (14 * p + 2 + 3 * j)).toInt64 (S (14 * p + 2 + 3 * j + 1)).toInt64 (S (14 * p + 2 + 3 * j + 2)).toInt64 Lr)) := rfl
    have hrow : ∀ i, i < 3 → i < x → ax_st 650 x (S (14 * p + 2 + 3 * j)).toInt64 (S (14 * p + 2 + 3 * j + 1)).toInt64 (S (14 * p + 2 + 3 * j + 2)).toInt64 Lr 650 i = (S (14 * p + 2 + 3 * j + i)).toInt64 := fun i hi hix => by
      rw [rl_st hi, if_pos hix]
      rcases (show i = 0 ∨ i = 1 ∨ i = 2 by omega) with rfl | rfl | rfl <;> rfl
    generalize hq : ax_st 650 x (S (14 * p + 2 + 3 * j)).toInt64 (S (14 * p + 2 + 3 * j + 1)).toInt64 (S (14 * p + 2 + 3 * j + 2)).toInt64 Lr = L6 at w1 hrow
    have q6 : ∀ q, q ≠ 650 → L6 q = Lr q := fun q h => by rw [← hq, rl_st_ne h]
    have h2 : mt_at (ax_st 649 v (ax_im S (L6 650) k 0 x) (ax_im S (L6 650) k 1 x) (ax_im S (L6 650) k 2 x) L6) 648 B := fun k' j' a b => by
      rw [rl_st_ne (by omega), q6 _ (by omega)]; exact hA k' j' a b
    have hcl : ∀ z, z < 3 → ax_apt J 7 (9 * k) (aa + 55) (aa + 56) (ax_rre J 1 (aa + 55) p j 3 Lc) 3 (aa + 56) z = ax_im S (L6 650) k z x := fun z hz => by
      have e : ∀ i, i < 3 → ax_rre J 1 (aa + 55) p j 3 Lc (aa + 55) i * (J 7 (9 * k + 3 * i + z)).toInt64 = if i < x then L6 650 i * (S (84 + 11 * k + 2 + 3 * i + z)).toInt64 else 0 := fun i hi => by
        have t1 := ht (3 * i + z) (by omega)
        rw [← Nat.add_assoc, ← Nat.add_assoc] at t1
        rw [rl_rre, if_pos ⟨rfl, hi⟩, t1, show (p * 4 + j) * 3 + i = 12 * p + 3 * j + i by omega, hr j i (by omega) hi]
        by_cases c : i < x
        · rw [if_pos c, if_pos c, hrow i hi c]
        · rw [if_neg c, if_neg c]
          show (0 : Int64) * _ = 0
          exact Int64.zero_mul
      rw [rl_aptx (by omega), if_pos ⟨rfl, hz⟩, e 0 (by omega), e 1 (by omega), e 2 (by omega)]
      rcases (show x = 0 ∨ x = 1 ∨ x = 2 ∨ x = 3 by omega) with e0 | e0 | e0 | e0
      · rw [e0]; rfl
      · rw [e0]
        show L6 650 0 * (S (84 + 11 * k + 2 + 3 * 0 + z)).toInt64 + 0 + 0 = 0 + L6 650 0 * (S (84 + 11 * k + 2 + 3 * 0 + z)).toInt64
        rw [Int64.add_zero, Int64.add_zero, Int64.zero_add]
      · rw [e0]
        show L6 650 0 * (S (84 + 11 * k + 2 + 3 * 0 + z)).toInt64 + L6 650 1 * (S (84 + 11 * k + 2 + 3 * 1 + z)).toInt64 + 0 = 0 + L6 650 0 * (S (84 + 11 * k + 2 + 3 * 0 + z)).toInt64 + L6 650 1 * (S (84 + 11 * k + 2 + 3 * 1 + z)).toInt64
        rw [Int64.add_zero, Int64.zero_add]
      · rw [e0]
        show L6 650 0 * (S (84 + 11 * k + 2 + 3 * 0 + z)).toInt64 + L6 650 1 * (S (84 + 11 * k + 2 + 3 * 1 + z)).toInt64 + L6 650 2 * (S (84 + 11 * k + 2 + 3 * 2 + z)).toInt64 = 0 + L6 650 0 * (S (84 + 11 * k + 2 + 3 * 0 + z)).toInt64 + L6 650 1 * (S (84 + 11 * k + 2 + 3 * 1 + z)).toInt64 + L6 650 2 * (S (84 + 11 * k + 2 + 3 * 2 + z)).toInt64
        rw [Int64.zero_add]
    obtain ⟨a1, a2, a3, a4⟩ := mt_alike (a := (aa + 10)) (q := (aa + 56)) (r := 649) (t := 648) (w := v) (B := B) (by omega) (by omega) (by omega) h1 h2 hl 0 v (by omega) (fun z hz => by
      rw [hcl z (by omega), rl_st (by omega), if_pos hz]
      rcases (show z = 0 ∨ z = 1 ∨ z = 2 by omega) with rfl | rfl | rfl <;> rfl)
    have a5 : ∀ z, v ≤ z → z < 3 → ax_ws1 S 639 k p x v j Lr 649 z = 0 := fun z h3 h4 => by
      rw [w1, mt_rs0 (w := v) (by omega) h2 hl (by omega) (by omega) (fun k' hk' => hB k' z hk' h3) v (by omega), rl_st (by omega), if_neg (by omega)]
    rw [← w1] at a1 a3
    generalize ax_rfo (aa + 10) (aa + 56) v 0 v (ax_apt J 7 (9 * k) (aa + 55) (aa + 56) (ax_rre J 1 (aa + 55) p j 3 Lc) 3) = C1 at u1 a1 a2
    generalize ax_ws1 S 639 k p x v j Lr = R1 at u2 a1 a3 a5
    have hb : ax_sz (C1 (aa + 56)) v = ax_all0 R1 649 0 3 := by
      rw [Bool.eq_iff_iff, rl_all0]
      unfold ax_sz
      rw [decide_eq_true_eq]
      refine ⟨fun h z hz => ?_, fun h z hz => (a1 z hz).trans (h z (by omega))⟩
      by_cases c : z < v
      · exact (a1 z c).symm.trans (h z c)
      · exact a5 z (by omega) hz
    have f1 : ∀ q, q ≠ (aa + 55) → q ≠ (aa + 56) → C1 q = Lc q := fun q b1 b2 => by
      rw [a2 q b2]; funext z; rw [rl_aptx (by omega), if_neg (fun y => b2 y.1), rl_rre, if_neg (fun y => b1 y.1)]
    have f2 : ∀ q, q ≠ 649 → q ≠ 650 → R1 q = Lr q := fun q b1 b2 => by rw [a3 q b1, rl_st_ne b1, q6 q b2]
    rw [hb] at u1
    cases hh : ax_all0 R1 649 0 3 with
    | false =>
      rw [hh] at u1 u2
      rw [u1, u2]
      exact ⟨rfl, f1, f2⟩
    | true =>
      rw [hh] at u1 u2
      rw [if_pos rfl] at u1
      obtain ⟨i1, i2, i3⟩ := ih (j + 1) C1 R1 (by omega) (fun k' j' a b => by rw [f1 _ (by omega) (by omega)]; exact hc k' j' a b) (fun k' j' a b => by rw [f2 _ (by omega) (by omega)]; exact hA k' j' a b)
      rw [u1, u2]
      exact ⟨i1, fun q b1 b2 => (i2 q b1 b2).trans (f1 q b1 b2), fun q b1 b2 => (i3 q b1 b2).trans (f2 q b1 b2)⟩
set_option maxRecDepth 20000 in
/-- a map is well alike -/
theorem rl_wellA {aa : Nat} (haa : 14 < aa) {J : ax_I} {S : Nat → Int32} {gn gc : Nat → Nat} {k p r x y : Nat} {Lc Lr : ax_L} (hSt : rl_St 1 J S) (hsn : ∀ g, g < 6 → S (14 * g) = nI (gn g) ∧ gn g ≤ 3) (hsc : ∀ g, g < 6 → S (14 * g + 1) = nI (gc g) ∧ gc g ≤ 4) (hM : ax_Mp S k p r x y) (ht : ∀ i, i < 9 → J 7 (9 * k + i) = S (84 + 11 * k + 2 + i)) :
    ax_ldv J Lc aa 1 k p r (gn p) (gc p) (gn r) (gc r) = (ax_wl 639 k p r (gn p) (gn r) (gc p) (gc r) S Lr).1 ∧ (∀ q, (q < aa + 3 ∨ (aa + 56) < q) → ax_ldL J Lc aa 1 k p r (gn p) (gc p) (gn r) (gc r) q = Lc q) ∧ ∀ q, q ≠ 643 → q ≠ 648 → q ≠ 649 → q ≠ 650 → (ax_wl 639 k p r (gn p) (gn r) (gc p) (gc r) S Lr).2 q = Lr q := by
  obtain ⟨m1, m2, m3, -⟩ := hM
  have hS2 : rl_St 1 (ax_u J (aa + 1) 2 (nI (gn p))) S := hSt.keep (by rw [ax_u_ne (by omega)]) (fun q h1 h2 => ax_u_ne (by omega)) (fun _ _ => rfl)
  obtain ⟨a1, a2, a3⟩ := rl_nth (x := (aa + 1)) hSt hsn hsc m2 (by omega) Lc
  obtain ⟨b1, b2, b3⟩ := rl_nth (x := (aa + 10)) hS2 hsn hsc m3 (by omega) (ax_nth J 1 (aa + 1) p (gn p) (gc p) Lc)
  obtain ⟨t1, t2⟩ := rl_N1t (t := 648) hSt.2.1 hsn hsc m3 (by omega) (by omega)
  obtain ⟨t3, t4, t5⟩ := t2 Lr
  obtain ⟨c1, c2, c3⟩ := rl_rrsA (J := ax_u (ax_u J (aa + 1) 2 (nI (gn p))) (aa + 10) 2 (nI (gn r))) (S := S) (B := mt_N S gn gc r) (k := k) (p := p) (x := gn p) (v := gn r) (c := gc p) (hsn p m2).2 (hsn r m3).2 t5 (fun k' j' h1 h2 => b2.1.2.2.2.2 k' j' h1 h2) (fun r' i h1 h2 => by
      have := (hsc p m2).2
      have h3 := hSt.1.2.1 p r' i m2 (by omega) h2 (by rw [(hsc p m2).1, nI_clamp (by omega)]; exact h1)
      rw [(hsn p m2).1, nI_clamp (by have := (hsn p m2).2; omega)] at h3
      rw [ax_u_ne (by omega), ax_u_ne (by omega)]; exact h3) (fun i hi => by rw [ax_u_ne (by omega), ax_u_ne (by omega)]; exact ht i hi)
    (gc p) 0 (ax_nth (ax_u J (aa + 1) 2 (nI (gn p))) 1 (aa + 10) r (gn r) (gc r) (ax_nth J 1 (aa + 1) p (gn p) (gc p) Lc)) (ax_N1t 639 r 648 (gn r) (gc r) S Lr) (by omega) b1 t3
  exact ⟨c1, fun q hq => (c2 q (by omega) (by omega)).trans ((b3 q (by omega)).trans (a3 q (by omega))), fun q q1 q2 q3 q4 => (c3 q q3 q4).trans (t4 q q1 q2 q3)⟩
set_option maxRecDepth 20000 in
theorem rl_wellLA {aa : Nat} (haa : 14 < aa) {J : ax_I} {S : Nat → Int32} {gn gc : Nat → Nat} {k p r x y : Nat} {Lc : ax_L} (hSt : rl_St 1 J S) (hsn : ∀ g, g < 6 → S (14 * g) = nI (gn g) ∧ gn g ≤ 3) (hsc : ∀ g, g < 6 → S (14 * g + 1) = nI (gc g) ∧ gc g ≤ 4) (hM : ax_Mp S k p r x y) (ht : ∀ i, i < 9 → J 7 (9 * k + i) = S (84 + 11 * k + 2 + i)) :
    mt_lat (ax_ldL J Lc aa 1 k p r (gn p) (gc p) (gn r) (gc r)) (aa + 10) (mt_N S gn gc r) := by
  obtain ⟨m1, m2, m3, -⟩ := hM
  have hS2 : rl_St 1 (ax_u J (aa + 1) 2 (nI (gn p))) S := hSt.keep (by rw [ax_u_ne (by omega)]) (fun q h1 h2 => ax_u_ne (by omega)) (fun _ _ => rfl)
  obtain ⟨b1, b2, b3⟩ := rl_nth (x := (aa + 10)) hS2 hsn hsc m3 (by omega) (ax_nth J 1 (aa + 1) p (gn p) (gc p) Lc)
  obtain ⟨t1, t2⟩ := rl_N1t (t := 648) hSt.2.1 hsn hsc m3 (by omega) (by omega)
  obtain ⟨t3, t4, t5⟩ := t2 (fun _ _ => 0)
  obtain ⟨c1, c2, c3⟩ := rl_rrsA (J := ax_u (ax_u J (aa + 1) 2 (nI (gn p))) (aa + 10) 2 (nI (gn r))) (S := S) (B := mt_N S gn gc r) (k := k) (p := p) (x := gn p) (v := gn r) (c := gc p) (hsn p m2).2 (hsn r m3).2 t5 (fun k' j' h1 h2 => b2.1.2.2.2.2 k' j' h1 h2) (fun r' i h1 h2 => by
      have := (hsc p m2).2
      have h3 := hSt.1.2.1 p r' i m2 (by omega) h2 (by rw [(hsc p m2).1, nI_clamp (by omega)]; exact h1)
      rw [(hsn p m2).1, nI_clamp (by have := (hsn p m2).2; omega)] at h3
      rw [ax_u_ne (by omega), ax_u_ne (by omega)]; exact h3) (fun i hi => by rw [ax_u_ne (by omega), ax_u_ne (by omega)]; exact ht i hi)
    (gc p) 0 (ax_nth (ax_u J (aa + 1) 2 (nI (gn p))) 1 (aa + 10) r (gn r) (gc r) (ax_nth J 1 (aa + 1) p (gn p) (gc p) Lc)) (ax_N1t 639 r 648 (gn r) (gc r) S (fun _ _ => 0)) (by omega) b1 t3
  exact fun k' j' h1 h2 => by
    show (ax_rrs (ax_u (ax_u J (aa + 1) 2 (nI (gn p))) (aa + 10) 2 (nI (gn r))) 1 k (aa + 10) (aa + 55) (aa + 56) (gn r) p (gc p) 0 (ax_nth (ax_u J (aa + 1) 2 (nI (gn p))) 1 (aa + 10) r (gn r) (gc r) (ax_nth J 1 (aa + 1) p (gn p) (gc p) Lc))).2 ((aa + 10) + 2 + k') j' = _
    rw [c2 _ (by omega) (by omega)]; exact b1 k' j' h1 h2
set_option maxRecDepth 20000 in
theorem rl_wellSA {aa : Nat} (haa : 14 < aa) {J : ax_I} {S : Nat → Int32} {gn gc : Nat → Nat} {k p r x y : Nat} {Lc : ax_L} (hSt : rl_St 1 J S) (hsn : ∀ g, g < 6 → S (14 * g) = nI (gn g) ∧ gn g ≤ 3) (hsc : ∀ g, g < 6 → S (14 * g + 1) = nI (gc g) ∧ gc g ≤ 4) (hM : ax_Mp S k p r x y) (ht : ∀ i, i < 9 → J 7 (9 * k + i) = S (84 + 11 * k + 2 + i)) :
    mt_lat (ax_ldL J Lc aa 1 k p r (gn p) (gc p) (gn r) (gc r)) (aa + 1) (mt_N S gn gc p) := by
  obtain ⟨m1, m2, m3, -⟩ := hM
  have hS2 : rl_St 1 (ax_u J (aa + 1) 2 (nI (gn p))) S := hSt.keep (by rw [ax_u_ne (by omega)]) (fun q h1 h2 => ax_u_ne (by omega)) (fun _ _ => rfl)
  obtain ⟨a1, a2, a3⟩ := rl_nth (x := aa + 1) hSt hsn hsc m2 (by omega) Lc
  obtain ⟨b1, b2, b3⟩ := rl_nth (x := (aa + 10)) hS2 hsn hsc m3 (by omega) (ax_nth J 1 (aa + 1) p (gn p) (gc p) Lc)
  obtain ⟨t1, t2⟩ := rl_N1t (t := 648) hSt.2.1 hsn hsc m3 (by omega) (by omega)
  obtain ⟨t3, t4, t5⟩ := t2 (fun _ _ => 0)
  obtain ⟨c1, c2, c3⟩ := rl_rrsA (J := ax_u (ax_u J (aa + 1) 2 (nI (gn p))) (aa + 10) 2 (nI (gn r))) (S := S) (B := mt_N S gn gc r) (k := k) (p := p) (x := gn p) (v := gn r) (c := gc p) (hsn p m2).2 (hsn r m3).2 t5 (fun k' j' h1 h2 => b2.1.2.2.2.2 k' j' h1 h2) (fun r' i h1 h2 => by
      have := (hsc p m2).2
      have h3 := hSt.1.2.1 p r' i m2 (by omega) h2 (by rw [(hsc p m2).1, nI_clamp (by omega)]; exact h1)
      rw [(hsn p m2).1, nI_clamp (by have := (hsn p m2).2; omega)] at h3
      rw [ax_u_ne (by omega), ax_u_ne (by omega)]; exact h3) (fun i hi => by rw [ax_u_ne (by omega), ax_u_ne (by omega)]; exact ht i hi)
    (gc p) 0 (ax_nth (ax_u J (aa + 1) 2 (nI (gn p))) 1 (aa + 10) r (gn r) (gc r) (ax_nth J 1 (aa + 1) p (gn p) (gc p) Lc)) (ax_N1t 639 r 648 (gn r) (gc r) S (fun _ _ => 0)) (by omega) b1 t3
  exact fun k' j' h1 h2 => by
    show (ax_rrs (ax_u (ax_u J (aa + 1) 2 (nI (gn p))) (aa + 10) 2 (nI (gn r))) 1 k (aa + 10) (aa + 55) (aa + 56) (gn r) p (gc p) 0 (ax_nth (ax_u J (aa + 1) 2 (nI (gn p))) 1 (aa + 10) r (gn r) (gc r) (ax_nth J 1 (aa + 1) p (gn p) (gc p) Lc))).2 ((aa + 1) + 2 + k') j' = _
    rw [c2 _ (by omega) (by omega), b3 _ (by omega)]; exact a1 k' j' h1 h2
