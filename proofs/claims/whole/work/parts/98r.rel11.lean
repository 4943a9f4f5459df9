/-! ===== pairs without mathematics: move, stop ===== -/
def rl_mv (A : ax_I) (S : Nat → Int32) (k j : Nat) : Prop := A 8 k = S (173 + 15 * j) ∧ A 9 k = S (173 + 15 * j + 1) ∧ (S (173 + 15 * j) = nI 2 → A 10 k = S (173 + 15 * j + 2) ∧ A 11 k = S (173 + 15 * j + 3) ∧ A 12 k = S (173 + 15 * j + 4) ∧ A 13 k = S (173 + 15 * j + 5) ∧ ∀ i, i < 9 → A 14 (9 * k + i) = S (173 + 15 * j + 6 + i))
def rl_mw (S : Nat → Int32) (k : Nat) : Prop := an_isMove (S (173 + 15 * k)) (S (173 + 15 * k + 1)) = true ∨ (S (173 + 15 * k) = nI 2 ∧ ∃ g h x y, g < 6 ∧ h < 6 ∧ x ≤ 3 ∧ y ≤ 3 ∧ S (173 + 15 * k + 2) = nI g ∧ S (173 + 15 * k + 3) = nI h ∧ S (173 + 15 * k + 4) = nI x ∧ S (173 + 15 * k + 5) = nI y ∧ ∀ i j, i < 3 → j < 3 → ax_in3 (S (173 + 15 * k + 6 + 3 * i + j)).toInt64 (-99) 99 = true ∧ (¬ (i < x ∧ j < y) → S (173 + 15 * k + 6 + 3 * i + j) = 0))
theorem rl_mv.to {A B : ax_I} {S R : Nat → Int32} {k j k' j' : Nat} (h : rl_mv A S k j) (h1 : ∀ q, 8 ≤ q → q < 14 → B q k' = A q k) (h2 : ∀ i, i < 9 → B 14 (9 * k' + i) = A 14 (9 * k + i)) (h3 : ∀ i, i < 15 → R (173 + 15 * j' + i) = S (173 + 15 * j + i)) : rl_mv B R k' j' := by
  obtain ⟨a1, a2, a3⟩ := h
  unfold rl_mv
  rw [h1 8 (by omega) (by omega), h1 9 (by omega) (by omega), h1 10 (by omega) (by omega), h1 11 (by omega) (by omega), h1 12 (by omega) (by omega), h1 13 (by omega) (by omega), show R (173 + 15 * j') = S (173 + 15 * j) from h3 0 (by omega), h3 1 (by omega), h3 2 (by omega), h3 3 (by omega), h3 4 (by omega), h3 5 (by omega)]
  refine ⟨a1, a2, fun hs => ?_⟩
  obtain ⟨t1, t2, t3, t4, t5⟩ := a3 hs
  refine ⟨t1, t2, t3, t4, fun i hi => ?_⟩
  have e := h3 (6 + i) (by omega)
  rw [← Nat.add_assoc, ← Nat.add_assoc] at e
  rw [h2 i hi, e]; exact t5 i hi
theorem rl_mw.to {S R : Nat → Int32} {j j' : Nat} (h : rl_mw S j) (h3 : ∀ i, i < 15 → R (173 + 15 * j' + i) = S (173 + 15 * j + i)) : rl_mw R j' := by
  unfold rl_mw
  rw [show R (173 + 15 * j') = S (173 + 15 * j) from h3 0 (by omega), h3 1 (by omega), h3 2 (by omega), h3 3 (by omega), h3 4 (by omega), h3 5 (by omega)]
  rcases h with h1 | ⟨h1, g, h2, x, y, a1, a2, a3, a4, a5, a6, a7, a8, a9⟩
  · exact Or.inl h1
  · refine Or.inr ⟨h1, g, h2, x, y, a1, a2, a3, a4, a5, a6, a7, a8, fun i k hi hk => ?_⟩
    have e : R (173 + 15 * j' + 6 + 3 * i + k) = S (173 + 15 * j + 6 + 3 * i + k) := by have z := h3 (6 + 3 * i + k) (by omega); simpa only [Nat.add_assoc] using z
    rw [e]; exact a9 i k hi hk
/-- moves may change: all else of a State stays -/
theorem rl_St.moves {I J : ax_I} {p : Nat} (h : rl_St 1 I (I 640)) (hp : p ≤ 12) (e : ∀ q, 2 ≤ q → q < 8 → J q = I q) (eS : ∀ z, z < 172 → J 640 z = I 640 z) (e6 : J 1 6 = nI p) (e172 : J 640 172 = nI p) (hm : ∀ k, k < p → rl_mv J (J 640) k k ∧ rl_mw (J 640) k) : rl_St 1 J (J 640) := by
  obtain ⟨⟨p1, p2, p3, p4⟩, w1, w2, w3⟩ := h
  refine ⟨⟨p1.keep (e 2 (by omega) (by omega)) (e 3 (by omega) (by omega)) (fun z hz => eS z (by omega)), p2.keep (e 4 (by omega) (by omega)) (fun z hz => eS z (by omega)), p3.keep (e 5 (by omega) (by omega)) (e 6 (by omega) (by omega)) (e 7 (by omega) (by omega)) (fun z _ hz => eS z (by omega)), e6.trans e172.symm, fun k hk hq => ?_⟩, w1.keep (fun z hz => eS z (by omega)), w2.keep (fun z _ hz => eS z (by omega)) (fun g hg => eS _ (by omega)), ⟨p, hp, e172, fun k hk => (hm k hk).2⟩⟩
  rw [e172, nI_clamp (by omega)] at hq
  exact (hm k hq).1
theorem rl_mvs {I : ax_I} (h : rl_St 1 I (I 640)) : ∃ p, p ≤ 12 ∧ I 1 6 = nI p ∧ I 640 172 = nI p ∧ ∀ k, k < p → rl_mv I (I 640) k k ∧ rl_mw (I 640) k := by
  obtain ⟨⟨p1, p2, p3, p4, p5⟩, w1, w2, ⟨p, hp, w4, w5⟩⟩ := h
  exact ⟨p, hp, p4.trans w4, w4, fun k hk => ⟨p5 k (by omega) (by rw [w4, nI_clamp (by omega)]; exact hk), w5 k hk⟩⟩
theorem rl_mz {a b : Nat} {J : ax_I} : ∀ n, (∀ q, q ≠ a → ax_mz a b n J q = J q) ∧ ∀ z, (z < b + 2 ∨ b + 2 + n ≤ z) → ax_mz a b n J a z = J a z := by
  intro n
  induction n with
  | zero => exact ⟨fun _ _ => rfl, fun _ _ => rfl⟩
  | succ n ih => exact ⟨fun q hq => (ax_u_ne hq).trans (ih.1 q hq), fun z hz => (ax_u_nj (by omega)).trans (ih.2 z (by omega))⟩
theorem rl_mt9 {a x y : Nat} {J : ax_I} (hxy : x + 11 ≤ y) : ∀ n, n ≤ 9 → (∀ q, q ≠ a → ax_mt9 a x y n J q = J q) ∧ ∀ z, ax_mt9 a x y n J a z = if y + 6 ≤ z ∧ z < y + 6 + n then J a (x + 2 + (z - (y + 6))) else J a z := by
  intro n
  induction n with
  | zero => intro _; exact ⟨fun _ _ => rfl, fun z => by rw [if_neg (by omega)]; rfl⟩
  | succ n ih =>
    intro hn
    obtain ⟨i1, i2⟩ := ih (by omega)
    refine ⟨fun q hq => (ax_u_ne hq).trans (i1 q hq), fun z => ?_⟩
    have e1 : ax_mt9 a x y n J a (x + 2 + n) = J a (x + 2 + n) := by rw [i2, if_neg (by omega)]
    show ax_u (ax_mt9 a x y n J) a (y + 6 + n) (ax_mt9 a x y n J a (x + 2 + n)) a z = _
    rw [e1]
    by_cases hz : z = y + 6 + n
    · subst hz; rw [ax_u_at, if_pos (by omega), Nat.add_sub_cancel_left]
    · rw [ax_u_nj hz, i2]
      by_cases hz2 : y + 6 ≤ z ∧ z < y + 6 + n
      · rw [if_pos hz2, if_pos (by omega)]
      · rw [if_neg hz2, if_neg (by omega)]
theorem rl_mv3 (v : Int32) : (if v < 0 then false else (if (nI 3) ≤ v then false else true)) = ax_in3 v.toInt64 0 2 := by
  have u3 : (nI 3).toInt = 3 := by decide
  have v2 : (2 : Int64).toInt = 2 := by decide
  have h1 : v < 0 ↔ v.toInt < 0 := by rw [Int32.lt_iff_toInt_lt, rl_i0]
  have h2 : nI 3 ≤ v ↔ 3 ≤ v.toInt := by rw [Int32.le_iff_toInt_le, u3]
  rw [rl_in3, rl_l0, v2]
  by_cases c1 : v < 0
  · rw [if_pos c1, decide_eq_false (by have := h1.mp c1; omega)]
  · rw [if_neg c1]
    by_cases c2 : nI 3 ≤ v
    · rw [if_pos c2, decide_eq_false (by have := h2.mp c2; omega)]
    · rw [if_neg c2, decide_eq_true (by have := mt h1.mpr c1; have := mt h2.mpr c2; omega)]
set_option maxRecDepth 20000 in
/-- a move without a map, in both -/
theorem rl_move1 {G : ax_G} {I : ax_I} {L : ax_L} {c k p u : Nat} {v : Int32} (h : rl_Rel G I L) (hc : c < 20) (hk : k ≤ 20) (h0 : ∀ i, i < k → rl_St (31 + 14 * ((c + 20 - k + i) % 20)) I (fun z => I 642 (353 * i + z)))
    (hp : p < 12) (m1 : I 1 6 = nI p) (m2 : I 640 172 = nI p) (m3 : ∀ k, k < p → rl_mv I (I 640) k k ∧ rl_mw (I 640) k) (hu : u ≤ 3) (hu2 : u ≠ 2) (hv : an_isMove (nI u) v = true) :
    rl_Rel G (ax_u (ax_mz 640 (173 + 15 * p) 13 (ax_u (ax_u (ax_ch 639 k (ax_u (ax_u (ax_u (ax_rem 0 c k I) 8 p (nI u)) 9 p v) 1 6 (nI (p + 1)))) 640 (173 + 15 * p) (nI u)) 640 (173 + 15 * p + 1) v)) 640 172 (nI (p + 1))) L := by
  have fr : ∀ q, (q < 29 ∨ 311 ≤ q) → ax_rem 0 c k I q = I q := fun q hq => ax_rem_ne hc (by omega)
  generalize hI1 : ax_u (ax_u (ax_u (ax_rem 0 c k I) 8 p (nI u)) 9 p v) 1 6 (nI (p + 1)) = I1
  have f1 : ∀ q, q ≠ 1 → q ≠ 8 → q ≠ 9 → I1 q = ax_rem 0 c k I q := fun q z1 z2 z3 => by rw [← hI1, ax_u_ne z1, ax_u_ne z3, ax_u_ne z2]
  have f2 : I1 8 = ax_u I 8 p (nI u) 8 := by rw [← hI1, ax_u_ne (by omega), ax_u_ne (by omega), ax_u_eq, ax_u_eq, fr 8 (by omega)]
  have f3 : I1 9 = ax_u I 9 p v 9 := by rw [← hI1, ax_u_ne (by omega), ax_u_eq, ax_u_eq, ax_u_ne (by omega), fr 9 (by omega)]
  have f4 : I1 1 6 = nI (p + 1) := by rw [← hI1, ax_u_at]
  have f8 : ∀ q, 311 ≤ q → I1 q = I q := fun q hq => (f1 q (by omega) (by omega) (by omega)).trans (fr q (by omega))
  generalize hJ : ax_u (ax_mz 640 (173 + 15 * p) 13 (ax_u (ax_u (ax_ch 639 k I1) 640 (173 + 15 * p) (nI u)) 640 (173 + 15 * p + 1) v)) 640 172 (nI (p + 1)) = J
  have g1 : ∀ q, q ≠ 640 → J q = ax_ch 639 k I1 q := fun q hq => by rw [← hJ, ax_u_ne hq, (rl_mz 13).1 q hq, ax_u_ne hq, ax_u_ne hq]
  have g2 : ∀ z, z ≠ 172 → (z < 173 + 15 * p ∨ 173 + 15 * p + 15 ≤ z) → J 640 z = I 640 z := fun z z1 z2 => by
    rw [← hJ, ax_u_nj z1, (rl_mz 13).2 z (by omega), ax_u_nj (by omega), ax_u_nj (by omega), ax_ch_ne (by omega) (by omega), f8 640 (by omega)]
  have g3 : J 640 172 = nI (p + 1) := by rw [← hJ, ax_u_at]
  have g4 : J 640 (173 + 15 * p) = nI u ∧ J 640 (173 + 15 * p + 1) = v := by
    rw [← hJ]
    refine ⟨?_, ?_⟩
    · rw [ax_u_nj (by omega), (rl_mz 13).2 _ (by omega), ax_u_nj (by omega), ax_u_at]
    · rw [ax_u_nj (by omega), (rl_mz 13).2 _ (by omega), ax_u_at]
  have g6 : ∀ q, q < 15 → J q = I1 q := fun q hq => (g1 q (by omega)).trans (ax_ch_ne (by omega) (by omega))
  obtain ⟨-, r2, -⟩ := id h
  have g7 : ∀ q, q < 15 → q ≠ 1 → q ≠ 8 → q ≠ 9 → J q = I q := fun q z0 z1 z2 z3 => (g6 q z0).trans ((f1 q z1 z2 z3).trans (fr q (by omega)))
  refine h.chg2 hc hk h0 (fun q hq => f1 q (by omega) (by omega) (by omega)) g1 (r2.moves (p := p + 1) (by omega) (fun q z1 z2 => g7 q (by omega) (by omega) (by omega) (by omega)) (fun z hz => g2 z (by omega) (by omega)) (by rw [g6 1 (by omega)]; exact f4) g3 (fun j hj => ?_)) (fun _ _ _ => rfl) rfl rfl
  by_cases e : j = p
  · subst e
    refine ⟨⟨?_, ?_, fun hs => ?_⟩, Or.inl ?_⟩
    · rw [g6 8 (by omega), f2, ax_u_at, g4.1]
    · rw [g6 9 (by omega), f3, ax_u_at, g4.2]
    · rw [g4.1] at hs; exact absurd ((nI_eq (by omega) (by omega)).mp hs) hu2
    · rw [g4.1, g4.2]; exact hv
  · obtain ⟨t1, t2⟩ := m3 j (by omega)
    have es : ∀ i, i < 15 → J 640 (173 + 15 * j + i) = I 640 (173 + 15 * j + i) := fun i hi => g2 _ (by omega) (by omega)
    refine ⟨t1.to (fun q z1 z2 => ?_) (fun i hi => by rw [g7 14 (by omega) (by omega) (by omega) (by omega)]) es, t2.to es⟩
    by_cases e8 : q = 8
    · subst e8; rw [g6 8 (by omega), f2, ax_u_nj e]
    · by_cases e9 : q = 9
      · subst e9; rw [g6 9 (by omega), f3, ax_u_nj e]
      · rw [g7 q (by omega) (by omega) e8 e9]
set_option maxRecDepth 20000 in
theorem rl_22 (l : Launch) (D : va_G) (T : Nat → ClassId) (o : Nat) : law_P22 l D T o 1000 rl_Rel 0 639 := by
  intro x G I L h
  obtain ⟨r1, r2, ⟨c, k, a1, a2, a3, a4, a5, a6⟩, r4, r5, r6, r7⟩ := id h
  obtain ⟨p, hp, m1, m2, m3⟩ := rl_mvs r2
  have im2 : ∀ v : Int32, (an_isMove (nI 2) v || (decide (nI 2 = nI 2) && (ax_in3 v.toInt64 0 7 && !decide (I (639 + 1) (84 + 11 * v.toNatClampNeg) < 0)))) = (ax_in3 v.toInt64 0 7 && !decide (I (1 + 4) v.toNatClampNeg = -1)) := fun v => by
    rw [rl_isMap r2]
    unfold an_isMove
    rw [if_neg (show ¬ nI 2 = 0 by decide), if_neg (show ¬ nI 2 = nI 1 by decide), decide_eq_false (show ¬ nI 2 = nI 3 by decide), decide_eq_true (show nI 2 = nI 2 from rfl)]
    simp
  have im : ∀ u v, u ≠ 2 → u ≤ 3 → (an_isMove (nI u) v || (decide (nI u = nI 2) && (ax_in3 v.toInt64 0 7 && !decide (I (639 + 1) (84 + 11 * v.toNatClampNeg) < 0)))) = an_isMove (nI u) v := fun u v hu hu3 => by
    rw [decide_eq_false (fun z => hu ((nI_eq (by omega) (by omega)).mp z))]
    simp
  by_cases hu : (x 1).toInt < 0 ∨ 3 < (x 1).toInt
  · refine ay_PI.mk (k_X10_move_no l D T o 1000 G I L 0 (x 1) (x 2) r1.1 hu (by omega)) (k_X11_move_bad l D T o 1000 G I L 639 (x 1) (x 2) r1.2.1 (by omega) ?_) rfl h
    have ne : ∀ m, m ≤ 3 → ¬ x 1 = nI m := fun m hm z => by rw [z, nI_toInt (by omega)] at hu; omega
    unfold an_isMove
    rw [if_neg (show ¬ x 1 = 0 from ne 0 (by omega)), if_neg (ne 1 (by omega)), decide_eq_false (ne 3 (by omega)), decide_eq_false (ne 2 (by omega))]
    simp
  · have eu : x 1 = nI (x 1).toInt.toNat := rl_ofInt (by omega) (by omega)
    have hu3 : (x 1).toInt.toNat ≤ 3 := by omega
    rw [eu]
    generalize (x 1).toInt.toNat = u at *
    by_cases hu2 : u = 2
    · subst hu2
      cases hm : (ax_in3 (x 2).toInt64 0 7 && !decide (I (1 + 4) (x 2).toNatClampNeg = -1)) with
      | false => exact ay_PI.mk (k_X10_move_bad2 l D T o 1000 G I L 0 (x 2) r1.1 hm (by omega)) (k_X11_move_bad l D T o 1000 G I L 639 (nI 2) (x 2) r1.2.1 (by omega) (by rw [im2]; exact hm)) rfl h
      | true =>
        by_cases h12 : p = 12
        · exact ay_PI.mk (k_X10_move_full2 l D T o 1000 G I L 0 p (x 2) r1.1 m1 hp hm h12 (by omega)) (k_X11_move_full l D T o 1000 G I L 639 (nI 2) (x 2) r1.2.1 (by rw [← h12]; exact m2) (by rw [im2]; exact hm) (by omega)) rfl h
        · obtain ⟨j, p', r, a, b, ej, ⟨q1, q2, q3, q4, q5, q6, q7, q8, q9⟩, e1, e2, e3, e4⟩ := rl_mapAt r2 hm
          rw [ej]
          have K := k_X10_move_2 l D T o 1000 G I L 0 c k p j p' r r1.1 a3 a4 a1 a2 m1 hp q1 e1 q2 e2 q3 (by omega) (by omega)
          have fr : ∀ q, (q < 29 ∨ 311 ≤ q) → ax_rem 0 c k I q = I q := fun q hq => ax_rem_ne a1 (by omega)
          generalize hI1 : ax_tmm (ax_rem 0 c k I) (0 + 1) p j p' r = I1 at K
          have f1 : ∀ q, q ≠ 1 → (q < 8 ∨ 15 ≤ q) → I1 q = ax_rem 0 c k I q := fun q z1 z2 => by
            rw [← hI1]; unfold ax_tmm
            rw [ax_u_ne (by omega), ax_cp_ne (by omega), ax_u_ne (by omega), ax_u_ne (by omega), ax_u_ne (by omega), ax_u_ne (by omega), ax_u_ne (by omega), ax_u_ne (by omega)]
          have f4 : I1 1 6 = nI (p + 1) := by rw [← hI1]; unfold ax_tmm; exact ax_u_at _ _ _ _
          have rs : ∀ q, 2 ≤ q → q < 15 → ax_rem 0 c k I q = I q := fun q z1 z2 => fr q (by omega)
          have t8 : ∀ z, I1 8 z = ax_u I 8 p (nI 2) 8 z := fun z => by
            rw [← hI1]; unfold ax_tmm
            rw [ax_u_ne (by omega), ax_cp_ne (by omega), ax_u_ne (by omega), ax_u_ne (by omega), ax_u_ne (by omega), ax_u_ne (by omega), ax_u_ne (by omega), show 0 + 1 + 7 = 8 by rfl, ax_u_eq, ax_u_eq, fr 8 (by omega)]
          have t9 : ∀ z, I1 9 z = ax_u I 9 p (nI j) 9 z := fun z => by
            rw [← hI1]; unfold ax_tmm
            rw [ax_u_ne (by omega), ax_cp_ne (by omega), ax_u_ne (by omega), ax_u_ne (by omega), ax_u_ne (by omega), ax_u_ne (by omega), show 0 + 1 + 8 = 9 by rfl, ax_u_eq, ax_u_eq, ax_u_ne (by omega), fr 9 (by omega)]
          have t10 : ∀ z, I1 10 z = ax_u I 10 p (nI p') 10 z := fun z => by
            rw [← hI1]; unfold ax_tmm
            rw [ax_u_ne (by omega), ax_cp_ne (by omega), ax_u_ne (by omega), ax_u_ne (by omega), ax_u_ne (by omega), show 0 + 1 + 9 = 10 by rfl, ax_u_eq, ax_u_eq, ax_u_ne (by omega), ax_u_ne (by omega), fr 10 (by omega)]
          have t11 : ∀ z, I1 11 z = ax_u I 11 p (nI r) 11 z := fun z => by
            rw [← hI1]; unfold ax_tmm
            rw [ax_u_ne (by omega), ax_cp_ne (by omega), ax_u_ne (by omega), ax_u_ne (by omega), show 0 + 1 + 10 = 11 by rfl, ax_u_eq, ax_u_eq, ax_u_ne (by omega), ax_u_ne (by omega), ax_u_ne (by omega), fr 11 (by omega)]
          have t12 : ∀ z, I1 12 z = ax_u I 12 p (I 2 p') 12 z := fun z => by
            rw [← hI1]; unfold ax_tmm
            rw [ax_u_ne (by omega), ax_cp_ne (by omega), ax_u_ne (by omega), show 0 + 1 + 11 = 12 by rfl, ax_u_eq, ax_u_eq, ax_u_ne (by omega), ax_u_ne (by omega), ax_u_ne (by omega), ax_u_ne (by omega), fr 12 (by omega), fr (0 + 1 + 1) (by omega)]
          have t13 : ∀ z, I1 13 z = ax_u I 13 p (I 2 r) 13 z := fun z => by
            rw [← hI1]; unfold ax_tmm
            rw [ax_u_ne (by omega), ax_cp_ne (by omega), show 0 + 1 + 12 = 13 by rfl, ax_u_eq, ax_u_eq, ax_u_ne (by omega), ax_u_ne (by omega), ax_u_ne (by omega), ax_u_ne (by omega), ax_u_ne (by omega), fr 13 (by omega), fr (0 + 1 + 1) (by omega)]
          have t14 : ∀ z, I1 14 z = if 9 * p ≤ z ∧ z < 9 * p + 9 then I 7 (9 * j + (z - 9 * p)) else I 14 z := fun z => by
            rw [← hI1]; unfold ax_tmm
            rw [ax_u_ne (by omega), show 0 + 1 + 13 = 14 by rfl, ax_cp_eq]
            unfold va_cpy
            by_cases hz : 9 * p ≤ z ∧ z < 9 * p + 9
            · rw [if_pos hz, if_pos hz, ax_u_ne (by omega), ax_u_ne (by omega), ax_u_ne (by omega), ax_u_ne (by omega), ax_u_ne (by omega), ax_u_ne (by omega), fr (0 + 1 + 6) (by omega)]
            · rw [if_neg hz, if_neg hz, ax_u_ne (by omega), ax_u_ne (by omega), ax_u_ne (by omega), ax_u_ne (by omega), ax_u_ne (by omega), ax_u_ne (by omega), fr 14 (by omega)]
          have f8 : ∀ q, 311 ≤ q → I1 q = I q := fun q hq => (f1 q (by omega) (by omega)).trans (fr q (by omega))
          refine ay_PI.mk K (k_X11_move_map l D T o 1000 G I1 L 639 k p j p' r a b (I1 (639 + 1)) r1.2.1 rfl q1 q2 q3 q4 q5 (by rw [f8 (639 + 1) (by omega)]; exact q6) (by rw [f8 (639 + 1) (by omega)]; exact q7) (by rw [f8 (639 + 1) (by omega)]; exact q8) (by rw [f8 (639 + 1) (by omega)]; exact q9) (by rw [f8 639 (by omega)]; exact a5) a2 (by rw [f8 (639 + 1) (by omega)]; exact m2) (by omega) (by omega)) rfl ?_
          generalize hB : ax_u (ax_u (ax_u (ax_u (ax_mz (639 + 1) (173 + 15 * p) 13 (ax_u (ax_u (ax_ch 639 k I1) (639 + 1) (173 + 15 * p) (nI 2)) (639 + 1) (173 + 15 * p + 1) (nI j))) (639 + 1) (173 + 15 * p + 2) (nI p')) (639 + 1) (173 + 15 * p + 3) (nI r)) (639 + 1) (173 + 15 * p + 4) (nI a)) (639 + 1) (173 + 15 * p + 5) (nI b) = B
          have b1 : ∀ q, q ≠ 640 → B q = ax_ch 639 k I1 q := fun q hq => by rw [← hB, ax_u_ne hq, ax_u_ne hq, ax_u_ne hq, ax_u_ne hq, (rl_mz 13).1 q hq, ax_u_ne hq, ax_u_ne hq]
          have b2 : ∀ z, (z < 173 + 15 * p ∨ 173 + 15 * p + 15 ≤ z) → B 640 z = I 640 z := fun z hz => by
            rw [← hB]
            show ax_u _ 640 _ _ 640 z = _
            rw [ax_u_nj (by omega)]
            show ax_u _ 640 _ _ 640 z = _
            rw [ax_u_nj (by omega)]
            show ax_u _ 640 _ _ 640 z = _
            rw [ax_u_nj (by omega)]
            show ax_u _ 640 _ _ 640 z = _
            rw [ax_u_nj (by omega)]
            show ax_mz 640 _ 13 _ 640 z = _
            rw [(rl_mz 13).2 z (by omega)]
            show ax_u _ 640 _ _ 640 z = _
            rw [ax_u_nj (by omega)]
            show ax_u _ 640 _ _ 640 z = _
            rw [ax_u_nj (by omega), ax_ch_ne (by omega) (by omega), f8 640 (by omega)]
          have b3 : B 640 (173 + 15 * p) = nI 2 ∧ B 640 (173 + 15 * p + 1) = nI j ∧ B 640 (173 + 15 * p + 2) = nI p' ∧ B 640 (173 + 15 * p + 3) = nI r ∧ B 640 (173 + 15 * p + 4) = nI a ∧ B 640 (173 + 15 * p + 5) = nI b := by
            rw [← hB, show 640 = 639 + 1 by rfl]
            refine ⟨?_, ?_, ?_, ?_, ?_, ?_⟩
            · rw [ax_u_nj (by omega), ax_u_nj (by omega), ax_u_nj (by omega), ax_u_nj (by omega), (rl_mz 13).2 _ (by omega), ax_u_nj (by omega), ax_u_at]
            · rw [ax_u_nj (by omega), ax_u_nj (by omega), ax_u_nj (by omega), ax_u_nj (by omega), (rl_mz 13).2 _ (by omega), ax_u_at]
            · rw [ax_u_nj (by omega), ax_u_nj (by omega), ax_u_nj (by omega), ax_u_at]
            · rw [ax_u_nj (by omega), ax_u_nj (by omega), ax_u_at]
            · rw [ax_u_nj (by omega), ax_u_at]
            · rw [ax_u_at]
          obtain ⟨c1, c2⟩ := rl_mt9 (a := 639 + 1) (x := 84 + 11 * j) (y := 173 + 15 * p) (J := B) (by omega) 9 (by omega)
          generalize hJ : ax_u (ax_mt9 (639 + 1) (84 + 11 * j) (173 + 15 * p) 9 B) (639 + 1) 172 (nI (p + 1)) = J
          have g1 : ∀ q, q ≠ 640 → J q = ax_ch 639 k I1 q := fun q hq => by rw [← hJ, ax_u_ne hq, c1 q hq, b1 q hq]
          have g2 : ∀ z, z ≠ 172 → J 640 z = if 173 + 15 * p + 6 ≤ z ∧ z < 173 + 15 * p + 6 + 9 then B 640 (84 + 11 * j + 2 + (z - (173 + 15 * p + 6))) else B 640 z := fun z hz => by
            rw [← hJ]
            show ax_u _ 640 _ _ 640 z = _
            rw [ax_u_nj hz]
            exact c2 z
          have g3 : J 640 172 = nI (p + 1) := by rw [← hJ]; exact ax_u_at _ _ _ _
          have g4 : ∀ z, z ≠ 172 → (z < 173 + 15 * p ∨ 173 + 15 * p + 15 ≤ z) → J 640 z = I 640 z := fun z z1 z2 => by rw [g2 z z1, if_neg (by omega), b2 z z2]
          have g5 : ∀ i, i < 6 → J 640 (173 + 15 * p + i) = B 640 (173 + 15 * p + i) := fun i hi => by rw [g2 _ (by omega), if_neg (by omega)]
          have g6 : ∀ i, i < 9 → J 640 (173 + 15 * p + 6 + i) = I 640 (84 + 11 * j + 2 + i) := fun i hi => by rw [g2 _ (by omega), if_pos (by omega), Nat.add_sub_cancel_left, b2 _ (by omega)]
          have g7 : ∀ q, q < 15 → J q = I1 q := fun q hq => (g1 q (by omega)).trans (ax_ch_ne (by omega) (by omega))
          have hs1 : I 2 p' = nI a := ((r2.1.1 p' q2).1).trans q8
          have hs2 : I 2 r = nI b := ((r2.1.1 r q3).1).trans q9
          refine h.chg2 a1 a2 a6 (fun q hq => f1 q (by omega) (by omega)) g1 (r2.moves (p := p + 1) (by omega) (fun q z1 z2 => (g7 q (by omega)).trans ((f1 q (by omega) (by omega)).trans (fr q (by omega)))) (fun z hz => g4 z (by omega) (by omega)) (by rw [g7 1 (by omega)]; exact f4) g3 (fun i hi => ?_)) (fun _ _ _ => rfl) rfl rfl
          by_cases e : i = p
          · subst e
            have j0 : J 640 (173 + 15 * i) = nI 2 := (g5 0 (by omega)).trans b3.1
            have j1 := (g5 1 (by omega)).trans b3.2.1
            have j2 := (g5 2 (by omega)).trans b3.2.2.1
            have j3 := (g5 3 (by omega)).trans b3.2.2.2.1
            have j4 := (g5 4 (by omega)).trans b3.2.2.2.2.1
            have j5 := (g5 5 (by omega)).trans b3.2.2.2.2.2
            refine ⟨⟨?_, ?_, fun _ => ⟨?_, ?_, ?_, ?_, fun y hy => ?_⟩⟩, Or.inr ⟨j0, p', r, a, b, q2, q3, q4, q5, j2, j3, j4, j5, fun y y2 hy hy2 => ?_⟩⟩
            · rw [g7 8 (by omega), t8, ax_u_at, j0]
            · rw [g7 9 (by omega), t9, ax_u_at, j1]
            · rw [g7 10 (by omega), t10, ax_u_at, j2]
            · rw [g7 11 (by omega), t11, ax_u_at, j3]
            · rw [g7 12 (by omega), t12, ax_u_at, j4, hs1]
            · rw [g7 13 (by omega), t13, ax_u_at, j5, hs2]
            · rw [g7 14 (by omega), t14, if_pos (by omega), Nat.add_sub_cancel_left, g6 y hy]; exact e3 y hy
            · have e5 := g6 (3 * y + y2) (by omega)
              rw [← Nat.add_assoc, ← Nat.add_assoc] at e5
              rw [e5]; exact e4 y y2 hy hy2
          · obtain ⟨w1, w2⟩ := m3 i (by omega)
            have es : ∀ y, y < 15 → J 640 (173 + 15 * i + y) = I 640 (173 + 15 * i + y) := fun y hy => g4 _ (by omega) (by omega)
            refine ⟨w1.to (fun q z1 z2 => ?_) (fun y hy => by rw [g7 14 (by omega), t14, if_neg (by omega)]) es, w2.to es⟩
            rw [g7 q (by omega)]
            rcases (show q = 8 ∨ q = 9 ∨ q = 10 ∨ q = 11 ∨ q = 12 ∨ q = 13 by omega) with rfl | rfl | rfl | rfl | rfl | rfl
            · rw [t8, ax_u_nj e]
            · rw [t9, ax_u_nj e]
            · rw [t10, ax_u_nj e]
            · rw [t11, ax_u_nj e]
            · rw [t12, ax_u_nj e]
            · rw [t13, ax_u_nj e]
    · have ok : an_isMove (nI u) (x 2) = true → p < 12 → rl_Rel G (ax_u (ax_mz 640 (173 + 15 * p) 13 (ax_u (ax_u (ax_ch 639 k (ax_u (ax_u (ax_u (ax_rem 0 c k I) 8 p (nI u)) 9 p (x 2)) 1 6 (nI (p + 1)))) 640 (173 + 15 * p) (nI u)) 640 (173 + 15 * p + 1) (x 2))) 640 172 (nI (p + 1))) L := fun hv hpp => rl_move1 h a1 a2 a6 hpp m1 m2 m3 hu3 hu2 hv
      have f8 : ∀ q, 311 ≤ q → (ax_u (ax_u (ax_u (ax_rem 0 c k I) 8 p (nI u)) 9 p (x 2)) 1 6 (nI (p + 1))) q = I q := fun q hq => by rw [ax_u_ne (by omega), ax_u_ne (by omega), ax_u_ne (by omega)]; exact ax_rem_ne a1 (by omega)
      have RB : an_isMove (nI u) (x 2) = false → _ := fun e => k_X11_move_bad l D T o 1000 G I L 639 (nI u) (x 2) r1.2.1 (by omega) (by rw [im u _ hu2 hu3]; exact e)
      have RF : p = 12 → an_isMove (nI u) (x 2) = true → _ := fun e12 e => k_X11_move_full l D T o 1000 G I L 639 (nI u) (x 2) r1.2.1 (by rw [← e12]; exact m2) (by rw [im u _ hu2 hu3]; exact e) (by omega)
      have RM : p < 12 → an_isMove (nI u) (x 2) = true → _ := fun e12 e => k_X11_move l D T o 1000 G (ax_u (ax_u (ax_u (ax_rem 0 c k I) 8 p (nI u)) 9 p (x 2)) 1 6 (nI (p + 1))) L 639 k p (nI u) (x 2) r1.2.1 (by rw [f8 639 (by omega)]; exact a5) a2 (by rw [f8 (639 + 1) (by omega)]; exact m2) e12 (fun z => hu2 ((nI_eq (by omega) (by omega)).mp z)) e (by omega)
      rcases (show u = 0 ∨ u = 1 ∨ u = 3 by omega) with rfl | rfl | rfl
      · have ev : an_isMove (nI 0) (x 2) = (if x 2 < 0 then false else (if (nI 3) ≤ x 2 then false else true)) := by rw [rl_mv3]; rfl
        cases e : an_isMove (nI 0) (x 2) with
        | false => exact ay_PI.mk (k_X10_move_bad0 l D T o 1000 G I L 0 (x 2) r1.1 (ev.symm.trans e) (by omega)) (RB e) rfl h
        | true =>
          by_cases h12 : p = 12
          · exact ay_PI.mk (k_X10_move_full0 l D T o 1000 G I L 0 p (x 2) r1.1 m1 hp (ev.symm.trans e) h12 (by omega)) (RF h12 e) rfl h
          · exact ay_PI.mk (k_X10_move_0 l D T o 1000 G I L 0 c k p (x 2) r1.1 a3 a4 a1 a2 m1 hp (ev.symm.trans e) (by omega) (by omega)) (RM (by omega) e) rfl (ok e (by omega))
      · have ev : an_isMove (nI 1) (x 2) = ax_iw (x 2).toInt64 9 := rfl
        cases e : an_isMove (nI 1) (x 2) with
        | false => exact ay_PI.mk (k_X10_move_bad1 l D T o 1000 G I L 0 (x 2) r1.1 (ev.symm.trans e) (by omega)) (RB e) rfl h
        | true =>
          by_cases h12 : p = 12
          · exact ay_PI.mk (k_X10_move_full1 l D T o 1000 G I L 0 p (x 2) r1.1 m1 hp (ev.symm.trans e) h12 (by omega)) (RF h12 e) rfl h
          · exact ay_PI.mk (k_X10_move_1 l D T o 1000 G I L 0 c k p (x 2) r1.1 a3 a4 a1 a2 m1 hp (ev.symm.trans e) (by omega) (by omega)) (RM (by omega) e) rfl (ok e (by omega))
      · have e : an_isMove (nI 3) (x 2) = true := rfl
        by_cases h12 : p = 12
        · exact ay_PI.mk (k_X10_move_full3 l D T o 1000 G I L 0 p (x 2) r1.1 m1 hp h12 (by omega)) (RF h12 e) rfl h
        · exact ay_PI.mk (k_X10_move_3 l D T o 1000 G I L 0 c k p (x 2) r1.1 a3 a4 a1 a2 m1 hp (by omega) (by omega)) (RM (by omega) e) rfl (ok e (by omega))
