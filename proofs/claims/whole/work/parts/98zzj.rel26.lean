/-! ===== pair: span ===== -/
theorem sp_99 {C : Nat → Int64} {b : Nat} : ∀ n, ax_99 C b n = decide (∀ q, q < n → ¬ C (b + q) < -99 ∧ C (b + q) ≤ 99) := by
  intro n
  induction n with
  | zero => exact (decide_eq_true (fun q h => absurd h (Nat.not_lt_zero _))).symm
  | succ n ih =>
    show (ax_99 C b n && (!decide (C (b + n) < -99) && !decide (99 < C (b + n)))) = _
    rw [ih]
    have e : (99 < C (b + n)) ↔ ¬ C (b + n) ≤ 99 := Int64.not_le.symm
    by_cases c : ∀ q, q < n → ¬ C (b + q) < -99 ∧ C (b + q) ≤ 99
    · rw [decide_eq_true c, Bool.true_and]
      by_cases d : ¬ C (b + n) < -99 ∧ C (b + n) ≤ 99
      · rw [decide_eq_false d.1, decide_eq_false (fun z => e.mp z d.2), decide_eq_true (fun q hq => by
          by_cases eq : q = n
          · rw [eq]; exact d
          · exact c q (by omega))]; rfl
      · have hno : ¬ ∀ q, q < n + 1 → ¬ C (b + q) < -99 ∧ C (b + q) ≤ 99 := fun z => d (z n (by omega))
        rw [decide_eq_false hno]
        by_cases d1 : C (b + n) < -99
        · rw [decide_eq_true d1]; rfl
        · rw [decide_eq_true (e.mpr (fun z => d ⟨d1, z⟩))]; simp
    · rw [decide_eq_false c, Bool.false_and, decide_eq_false (fun z => c (fun q hq => z q (by omega)))]
theorem sp_ml {B : Nat → Nat → Int} {w a b c : Nat} (hw : w ≤ 3) (a1 : 1 ≤ a) (b1 : 1 ≤ b) (c1 : 1 ≤ c) (h0 : (B 0 0).natAbs ≤ a) (h1 : (B 1 1).natAbs ≤ b) (h2 : (B 2 2).natAbs ≤ c) : sp_m B w ≤ a * b * c := by
  have f : ∀ k n, (B k k).natAbs ≤ n → 1 ≤ n → (if B k k = 0 then 1 else (B k k).natAbs) ≤ n := fun k n h1 h2 => by split <;> omega
  have m1 : sp_m B 1 ≤ a := by show 1 * _ ≤ a; rw [Nat.one_mul]; exact f 0 a h0 a1
  have m2 : sp_m B 2 ≤ a * b := Nat.mul_le_mul m1 (f 1 b h1 b1)
  have m3 : sp_m B 3 ≤ a * b * c := Nat.mul_le_mul m2 (f 2 c h2 c1)
  have p1 : a ≤ a * b := Nat.le_mul_of_pos_right _ b1
  have p2 : a * b ≤ a * b * c := Nat.le_mul_of_pos_right _ c1
  rcases (show w = 0 ∨ w = 1 ∨ w = 2 ∨ w = 3 by omega) with rfl | rfl | rfl | rfl
  · show 1 ≤ _
    omega
  · omega
  · omega
  · exact m3
theorem sp_lead {w : Nat} {B D : Nat → Nat → Int} (hB : cg_B w B) (hD : cg_B w D) (h : ∀ k, k < w → mt_sp w D (B k)) (k : Nat) : D k k ∣ B k k := by
  by_cases hk : k < w
  · obtain ⟨c, hc⟩ := h k hk
    have e1 : B k k = c k * D k k := by rw [hc k]; exact hD.1.ec.at hk (fun j hj => by rw [← hc j]; exact hB.1.1 k j hk hj)
    exact ⟨c k, by rw [Int.mul_comm]; exact e1⟩
  · rw [hB.2 k k (by omega)]; exact gv_d0 _
set_option maxRecDepth 20000 in
/-- span of elements that fit -/
theorem rl_9a (l : Launch) (D : va_G) (T : Nat → ClassId) (o : Nat) {G : ax_G} {I : ax_I} {L : ax_L} {g j n z : Nat} {i : Int32} {i0 : Nat} (h : rl_Rel G I L) (hg : g < 6) (hj : j < 4) (hn9 : n ≤ 9) (hs : I 667 j = nI 1) (hz : z ≤ 40) (hz1 : I (623 + 2 * j) 1 = nI z) (hz2 : I 668 j = nI z) (hi : n ≠ 0 → i = nI i0 ∧ i0 + 3 * n ≤ z) (h9 : n ≠ 0 → ax_99 (L 669) (40 * j + i0) (3 * n) = true) :
    ∃ v : Int32, ax_Con l D T o yX10_span cX10_span 9 (some .int) 1000 0 0 [.ref 0, .int (nI g), .int (nI j), .int i, .int (nI n)] G I L (fun z G' I' L' => z = some (.int v) ∧ G = G' ∧ ax_Con l D T o yX11_span cX11_span 8 (some .int) 1000 0 0 [.ref 639, .int (nI g), .int (nI j), .int i, .int (nI n)] G I' L' (fun z2 G2 I2 L2 => z2 = some (.int v) ∧ rl_Rel G2 I2 L2)) := by
  obtain ⟨r1, r2, r3, r4, r5, r6, r7⟩ := id h
  obtain ⟨-, p3, -, p5⟩ := r6 j hj
  obtain ⟨gn, gc, hgn, hgc, hsn, hsc⟩ := rl_gngc r2
  have hw := (hsn g hg).2
  have hc4 := (hsc g hg).2
  -- nothing, twice
  obtain ⟨n1, n2, n3⟩ := rl_nth (x := 597) r2 hsn hsc hg (by omega) L
  have h' : rl_Rel G (ax_u I 597 2 (nI (gn g))) L := h.work (fun q hq => ax_u_ne (by omega)) (fun z hz => by rw [ax_u_ne (by omega)]) (fun q hq => rfl)
  have r2' : rl_St 1 (ax_u I 597 2 (nI (gn g))) (I 640) := by
    have := h'.2.1
    rw [ax_u_ne (show 640 ≠ 597 by omega)] at this; exact this
  obtain ⟨k1, k2, k3⟩ := rl_nth (x := 606) r2' hsn hsc hg (by omega) (ax_nth I 1 597 g (gn g) (gc g) L)
  generalize hL2 : ax_nth (ax_u I 597 2 (nI (gn g))) 1 606 g (gn g) (gc g) (ax_nth I 1 597 g (gn g) (gc g) L) = L2 at k1 k3
  have L2f : ∀ q, (q < 599 ∨ (605 < q ∧ q < 608) ∨ 614 < q) → L2 q = L q := fun q hq => by rw [k3 q (by omega), n3 q (by omega)]
  -- all rows
  obtain ⟨n', c', z1, z2, z3, z4, z5⟩ := r2.2.1 g hg
  have ec : c' = gc g := (nI_eq (by omega) (by omega)).mp (z4.symm.trans (hsc g hg).1)
  subst ec
  have a1 : (-99 : Int64).toInt = -99 := by decide
  have a2 : (99 : Int64).toInt = 99 := by decide
  have c99 : n ≠ 0 → ∀ q, q < 3 * n → (L 669 (40 * j + i0 + q)).toInt.natAbs ≤ 99 := fun h0 q hq => by
    have e := h9 h0
    rw [sp_99, decide_eq_true_eq] at e
    obtain ⟨e1, e2⟩ := e q hq
    rw [Int64.lt_iff_toInt_lt, a1] at e1
    rw [Int64.le_iff_toInt_le, a2] at e2
    omega
  have cell : n ≠ 0 → ∀ q, q < 3 * n → L (624 + 2 * j) (i0 + q) = L 669 (40 * j + i0 + q) := fun h0 q hq => by
    have := (hi h0).2
    rw [p5 (i0 + q) (by omega), Nat.add_assoc]
  have rel9 : ∀ r k, r < gc g → (mt_rel (I 640) g (gn g) r k).natAbs ≤ 9 := fun r k hr => by
    unfold mt_rel
    split
    · exact mt_9 (z5 r k hr (by omega))
    · exact Nat.zero_le _
  have hXr : ∀ r, r < gc g → sp_X (I 640) g (gn g) (gc g) n (L (624 + 2 * j)) i0 r = mt_rel (I 640) g (gn g) r := fun r hr => by
    funext k
    unfold sp_X mt_rel
    rw [if_pos hr]
  have hXn : ∀ r, r < n → ∀ k, sp_X (I 640) g (gn g) (gc g) n (L (624 + 2 * j)) i0 (gc g + r) k = if k < gn g then (L 669 (40 * j + i0 + 3 * r + k)).toInt else 0 := fun r hr k => by
    unfold sp_X
    by_cases hk : k < gn g
    · rw [if_pos hk, if_pos hk, if_neg (by omega), if_pos (by omega), Nat.add_sub_cancel_left, show i0 + 3 * r + k = i0 + (3 * r + k) by omega, cell (by omega) _ (by omega), show 40 * j + i0 + (3 * r + k) = 40 * j + i0 + 3 * r + k by omega]
    · rw [if_neg hk, if_neg hk]
  have hX99 : ∀ r k, (sp_X (I 640) g (gn g) (gc g) n (L (624 + 2 * j)) i0 r k).natAbs ≤ 99 := fun r k => by
    by_cases h1 : r < gc g
    · rw [hXr r h1]; have := rel9 r k h1; omega
    · by_cases h2 : r < gc g + n
      · obtain ⟨r', rfl⟩ : ∃ r', r = gc g + r' := ⟨r - gc g, by omega⟩
        rw [hXn r' (by omega)]
        split
        · rw [Nat.add_assoc]; exact c99 (by omega) _ (by omega)
        · exact Nat.zero_le _
      · unfold sp_X
        by_cases hk : k < gn g
        · rw [if_pos hk, if_neg h1, if_neg h2]; exact Nat.zero_le _
        · rw [if_neg hk]; exact Nat.zero_le _
  have eN : mt_nt (gn g) (gc g) (sp_X (I 640) g (gn g) (gc g) n (L (624 + 2 * j)) i0) = mt_N (I 640) gn gc g := mt_nt_cg hXr
  have hN : mt_hn (gn g) (mt_nt (gn g) (gc g) (sp_X (I 640) g (gn g) (gc g) n (L (624 + 2 * j)) i0)) ∧ (∀ k, k < gn g → mt_sp (gc g) (sp_X (I 640) g (gn g) (gc g) n (L (624 + 2 * j)) i0) (mt_nt (gn g) (gc g) (sp_X (I 640) g (gn g) (gc g) n (L (624 + 2 * j)) i0) k)) ∧ ∀ r, r < gc g → mt_sp (gn g) (mt_nt (gn g) (gc g) (sp_X (I 640) g (gn g) (gc g) n (L (624 + 2 * j)) i0)) (sp_X (I 640) g (gn g) (gc g) n (L (624 + 2 * j)) i0 r) := by
    rw [eN]
    exact ⟨n2.1, fun k hk => (n2.2.1 k hk).cgX (fun r hr => (hXr r hr).symm), fun r hr => by rw [hXr r hr]; exact n2.2.2 r hr⟩
  have cB : cg_B (gn g) (mt_N (I 640) gn gc g) := ⟨n2.1, fun k z hk => by unfold mt_N mt_nt; rw [if_neg (by omega)]⟩
  obtain ⟨s1, s2, s3⟩ := sp_spe (S := I 640) (j := j) (i := i0) (c := gc g) (m := n) (gn := gn) (L := L2) (C := L (624 + 2 * j)) hw hj hX99 (L2f _ (by omega)) hN (by rw [eN]; exact k1) n (Nat.le_refl _)
  generalize hL3 : ax_spe 0 g j i0 gn n L2 = L3 at s1 s3
  have L3f : ∀ q, (q < 599 ∨ (605 < q ∧ q < 608) ∨ 614 < q) → q ≠ 621 → L3 q = L q := fun q hq h6 => by rw [s3 q (by omega) h6, L2f q hq]
  have lat597 : mt_lat L3 597 (mt_N (I 640) gn gc g) := fun k z hk hz => by rw [s3 _ (by omega) (by omega), k3 _ (by omega)]; exact n1 k z hk hz
  generalize hX : sp_X (I 640) g (gn g) (gc g) n (L (624 + 2 * j)) i0 = X at *
  have cD : cg_B (gn g) (mt_nt (gn g) (gc g + n) X) := ⟨s2.1, fun k z hk => by unfold mt_nt; rw [if_neg (by omega)]⟩
  -- bounds
  obtain ⟨⟨x1, x2, x3⟩, ⟨x4, x5, x6⟩, -⟩ := mt_bd (E := 9) hw (by decide) (fun r k hr => rel9 r k hr) cB n2.2.1 n2.2.2
  obtain ⟨⟨y1, y2, y3⟩, ⟨y4, y5, y6⟩, -⟩ := mt_bd (E := 99) hw (by decide) (fun r k _ => hX99 r k) cD s2.2.1 s2.2.2
  have all : ∀ {M : Nat → Nat → Int} {a b c : Nat}, cg_B (gn g) M → (M 0 0).natAbs ≤ a → (M 0 1).natAbs ≤ b → (M 1 1).natAbs ≤ b → (M 0 2).natAbs ≤ c → (M 1 2).natAbs ≤ c → (M 2 2).natAbs ≤ c → (∀ k, (M k 0).natAbs ≤ a) ∧ (∀ k, (M k 1).natAbs ≤ b) ∧ ∀ k, (M k 2).natAbs ≤ c := by
    intro M a b c hM h0 h1 h2 h3 h4 h5
    refine ⟨fun k => ?_, fun k => ?_, fun k => ?_⟩
    · rcases (show k = 0 ∨ 0 < k by omega) with rfl | hk
      · exact h0
      · rw [hM.low k 0 hk]; exact Nat.zero_le _
    · rcases (show k = 0 ∨ k = 1 ∨ 1 < k by omega) with rfl | rfl | hk
      · exact h1
      · exact h2
      · rw [hM.low k 1 hk]; exact Nat.zero_le _
    · rcases (show k = 0 ∨ k = 1 ∨ k = 2 ∨ 2 < k by omega) with rfl | rfl | rfl | hk
      · exact h3
      · exact h4
      · exact h5
      · rw [hM.low k 2 hk]; exact Nat.zero_le _
  have bB := all cB x1 x2 x3 x4 x5 x6
  have bD := all cD y1 y2 y3 y4 y5 y6
  have okj : ∀ {M : Nat → Nat → Int} {a b c : Nat}, cg_B (gn g) M → ((∀ k, (M k 0).natAbs ≤ a) ∧ (∀ k, (M k 1).natAbs ≤ b) ∧ ∀ k, (M k 2).natAbs ≤ c) → a < 9223372036854775808 → b < 9223372036854775808 → c < 9223372036854775808 → ∀ k z, mt_ok (M k z) := by
    intro M a b c hM hm ha hb hc k z
    unfold mt_ok
    rcases (show z = 0 ∨ z = 1 ∨ z = 2 ∨ 2 < z by omega) with rfl | rfl | rfl | hz
    · have := hm.1 k; omega
    · have := hm.2.1 k; omega
    · have := hm.2.2 k; omega
    · rw [hM.out k z (by omega)]; decide
  have okB := okj cB bB (by decide) (by decide) (by decide)
  have okD := okj cD bD (by decide) (by decide) (by decide)
  have gB : ∀ k, 0 ≤ mt_N (I 640) gn gc g k k := fun k => by
    by_cases hk : k < gn g
    · exact cB.1.2.1 k hk
    · rw [cB.2 k k (by omega)]; exact Int.le_refl _
  have gD : ∀ k, 0 ≤ mt_nt (gn g) (gc g + n) X k k := fun k => by
    by_cases hk : k < gn g
    · exact cD.1.2.1 k hk
    · rw [cD.2 k k (by omega)]; exact Int.le_refl _
  -- the reference
  obtain ⟨Y, w1, w2, w3, -⟩ := rl_N1 (t := 644) r2.2.1 hsn hsc hg (by omega) (by omega) L3
  have Y669 : Y 669 = L 669 := by rw [w3 669 (by omega) (by omega) (by omega), L3f 669 (by omega) (by omega)]
  obtain ⟨Q, E, q1, q2, q3, q4, q5, q6, q7⟩ := sp_ref (w := gn g) (b := 40 * j + i0) (n := n) (C := L 669) hw w2 cB ⟨fun k => by have := bB.1 k; omega, bB.2.1, bB.2.2⟩ Y669 (fun r k hr hk => by rw [Nat.add_assoc]; exact c99 (by omega) _ (by omega))
  -- both span the same
  have sBX : ∀ r, r < gn g → mt_sp (gn g) (mt_nt (gn g) (gc g + n) X) (mt_N (I 640) gn gc g r) := fun r hr => mt_sp.le (fun k hk => by rw [← hXr k hk]; exact s2.2.2 k (by omega)) (n2.2.1 r hr)
  have eED : ∀ k, k < gn g → ∀ z, E k z = mt_nt (gn g) (gc g + n) X k z := q5.1.uniq s2.1 (fun k hk => mt_sp.le (fun r hr => by
      by_cases hrw : r < gn g
      · exact (sBX r hrw).cg (fun z => if_pos hrw)
      · have e := s2.2.2 (gc g + (r - gn g)) (by omega)
        refine e.cg (fun z => ?_)
        rw [if_neg hrw, hXn (r - gn g) (by omega)]) (q6 k hk)) (fun k hk => mt_sp.le (fun r hr => by
      by_cases hrc : r < gc g
      · rw [hXr r hrc]
        exact mt_sp.le (fun k hk => (q7 k (by omega)).cg (fun z => (if_pos hk).symm)) (n2.2.2 r hrc)
      · obtain ⟨r', rfl⟩ : ∃ r', r = gc g + r' := ⟨r - gc g, by omega⟩
        refine (q7 (gn g + r') (by omega)).cg (fun z => ?_)
        rw [hXn r' (by omega), if_neg (show ¬ gn g + r' < gn g by omega), Nat.add_sub_cancel_left]) (s2.2.1 k hk))
  obtain ⟨v1, v2⟩ := sp_val (L := L3) (a := 597) (b := 606) (w := gn g) (V := Q 644) (W := Q 648) (by omega) lat597 s1 (fun k => ⟨okB k k, gB k⟩) (fun k => ⟨okD k k, gD k⟩) okB okD (sp_lead cB cD sBX) (fun k hk => by rw [show 7 * k = 6 * k + k by omega]; exact q3 k k (by omega) (by omega)) (fun k hk => by rw [show 7 * k = 6 * k + k by omega, q2 k k (by omega) (by omega), eED k hk k]) (Nat.lt_of_le_of_lt (sp_ml hw (by decide) (by decide) (by decide) x1 x3 x6) (by decide)) (Nat.lt_of_le_of_lt (sp_ml hw (by decide) (by decide) (by decide) y1 y3 y6) (by decide))
  have hv : ((ax_ixv L3 597 (gn g) 606 (gn g)).toInt32) = (ax_sn (Q 648) (Q 644) (gn g)).toInt32 := by rw [v2]
  have rel : ∀ J m, (∀ q, (q ≠ 639 ∧ q ≠ 597 ∧ q ≠ 606) → J q = I q) → J 639 = I 639 → rl_Rel G (ax_u J 639 6 (nI m)) Q := fun J m hJ hJ2 => by
    refine h.work (fun q hq => by rw [ax_u_ne (by omega)]; exact hJ q (by omega)) (fun z hz => by rw [ax_u_nj (by omega), hJ2]) (fun q hq => ?_)
    rw [q4 q (by omega) (by omega), w3 q (by omega) (by omega) (by omega), L3f q (by omega) (by omega)]
  have J1 : ∀ q, (q ≠ 639 ∧ q ≠ 597 ∧ q ≠ 606) → ax_u (ax_u I 597 2 (nI (gn g))) 606 2 (nI (gn g)) q = I q := fun q hq => by rw [ax_u_ne hq.2.2, ax_u_ne hq.2.1]
  have J2 : ax_u (ax_u I 597 2 (nI (gn g))) 606 2 (nI (gn g)) 639 = I 639 := by rw [ax_u_ne (by omega), ax_u_ne (by omega)]
  by_cases h0 : n = 0
  · subst h0
    have rf : ax_rf (I (0 + (623 + 2 * j)) 0) (I (0 + (623 + 2 * j)) 1) (nI 1) i (nI 0) = nI 0 := by
      rw [Nat.zero_add, p3, hs, hz1]
      unfold ax_rf
      rw [if_neg (by decide), if_pos rfl, if_pos (by decide)]; rfl
    have eL3 : L3 = L2 := by rw [← hL3]; rfl
    have K1 := k_X10_span_0 l D T o 1000 G I L 0 g j i gn gc r1.1 hgn hgc hg hj rf (by
      show ¬ (ax_ixw (ax_nth (ax_u I 597 2 (nI (gn g))) 1 606 g (gn g) (gc g) (ax_nth I 1 597 g (gn g) (gc g) L)) 597 606 (gn g) (1, 1)).2 = 0
      rw [hL2, ← eL3]; exact v1) (by omega)
    have eA : ax_nth (ax_u I (0 + 597) 2 (nI (gn g))) (0 + 1) (0 + 606) g (gn g) (gc g) (ax_nth I (0 + 1) (0 + 597) g (gn g) (gc g) L) = L3 := by rw [eL3, ← hL2]
    rw [eA] at K1
    have K2 := k_X11_span_0 l D T o 1000 G (ax_u (ax_u I 597 2 (nI (gn g))) 606 2 (nI (gn g))) L3 639 g j (gc g) (gn g) 9223372036854775808 i (I 640) Y Q r1.2.1 (J1 640 (by omega)) hg (hsn g hg).1 hw (hsc g hg).1 hc4 hj (by rw [J1 667 (by omega)]; exact hs) w1 (by
      have : ax_S1 639 (gn g) (40 * j + i0) 0 9223372036854775808 Y = ax_S1 639 (gn g) 0 0 9223372036854775808 Y := rfl
      rw [← this]; exact q1) (by omega)
    exact ay_PI.mk K1 K2 hv (rel _ _ J1 J2)
  · obtain ⟨ei, hi2⟩ := hi h0
    subst ei
    have t2 : (nI z - nI (3 * n)).toInt = z - 3 * n := by
      rw [Int32.toInt_sub, nI_toInt (by omega), nI_toInt (by omega)]
      exact (Int.bmod_eq_of_le (by omega) (by omega)).trans (by omega)
    have rf : ax_rf (I (0 + (623 + 2 * j)) 0) (I (0 + (623 + 2 * j)) 1) (nI 1) (nI i0) (nI (3 * n)) = nI 0 := by
      rw [Nat.zero_add, p3, hs, hz1]
      unfold ax_rf
      have q1 : ¬ nI (3 * n) ≤ 0 := fun y => by
        rw [Int32.le_iff_toInt_le, nI_toInt (by omega)] at y
        have : (0 : Int32).toInt = 0 := rfl
        omega
      have q2 : ¬ nI i0 < 0 := fun y => by
        rw [Int32.lt_iff_toInt_lt, nI_toInt (by omega)] at y
        have : (0 : Int32).toInt = 0 := rfl
        omega
      have q3 : nI i0 ≤ nI z - nI (3 * n) := by rw [Int32.le_iff_toInt_le, t2, nI_toInt (by omega)]; omega
      rw [if_neg (by decide), if_pos rfl, if_neg q1, if_neg q2, if_pos q3]; rfl
    have wi : ax_wi (L (0 + (624 + 2 * j))) 99 i0 (3 * n) = true := by
      have e := h9 h0
      rw [sp_99, decide_eq_true_eq] at e
      unfold ax_wi
      rw [decide_eq_true_eq]
      intro q hq
      rw [Nat.zero_add, cell h0 q hq]; exact e q hq
    have eA : ax_spe 0 g j i0 gn n (ax_nth (ax_u I (0 + 597) 2 (nI (gn g))) (0 + 1) (0 + 606) g (gn g) (gc g) (ax_nth I (0 + 1) (0 + 597) g (gn g) (gc g) L)) = L3 := by rw [← hL3, ← hL2]
    have K1 := k_X10_span l D T o 1000 G I L 0 g j i0 n gn gc r1.1 hgn hgc hg hj hn9 (by omega) rf wi (by rw [eA]; exact v1) (by omega)
    rw [eA] at K1
    have K2 := k_X11_span l D T o 1000 G (ax_u (ax_u I 597 2 (nI (gn g))) 606 2 (nI (gn g))) L3 639 g j i0 n z (gc g) (gn g) 9223372036854775808 (I 640) Y Q r1.2.1 (J1 640 (by omega)) hg (hsn g hg).1 hw (hsc g hg).1 hc4 hj (by rw [J1 667 (by omega)]; exact hs) (by rw [J1 668 (by omega)]; exact hz2) hz (by omega) hn9 hi2 (by
      show ax_99 (L3 669) _ _ = true
      rw [L3f 669 (by omega) (by omega)]; exact h9 h0) w1 q1 (by omega)
    exact ay_PI.mk K1 K2 hv (rel _ _ J1 J2)
set_option maxRecDepth 20000 in
theorem rl_9 (l : Launch) (D : va_G) (T : Nat → ClassId) (o : Nat) : law_P9 l D T o 1000 rl_Rel 0 639 := by
  intro x G I L h
  obtain ⟨r1, r2, r3, r4, r5, r6, r7⟩ := id h
  have u3 : (nI 9).toInt = 9 := by decide
  have hB : (nI 9 < x 4) ↔ 9 < (x 4).toInt := by rw [Int32.lt_iff_toInt_lt, u3]
  have hC : (x 4 < 0) ↔ (x 4).toInt < 0 := by rw [Int32.lt_iff_toInt_lt, rl_i0]
  have a1 : (0 : Int64).toInt = 0 := by decide
  have a2 : (9 : Int64).toInt = 9 := by decide
  cases hb : (ax_in3 (x 1).toInt64 0 5 && ax_in3 (x 2).toInt64 0 3 && ax_in3 (x 4).toInt64 0 9) with
  | false =>
    refine ay_PI.mk (k_X10_span_bad l D T o 1000 G I L 0 (x 1) (x 2) (x 3) (x 4) r1.1 ?_ (by omega)) (k_X11_span_bad l D T o 1000 G I L 639 (x 1) (x 2) (x 3) (x 4) r1.2.1 (by omega) hb) rfl h
    rw [rl_rng6, rl_rng4]
    cases h1 : ax_in3 (x 1).toInt64 0 5 with
    | false => exact Or.inl rfl
    | true =>
      cases h2 : ax_in3 (x 2).toInt64 0 3 with
      | false => exact Or.inr (Or.inl rfl)
      | true =>
        rw [h1, h2, Bool.true_and, Bool.true_and, rl_in3, decide_eq_false_iff_not, a1, a2] at hb
        rw [hB, hC]
        omega
  | true =>
    rw [Bool.and_eq_true, Bool.and_eq_true] at hb
    obtain ⟨⟨h1, h2⟩, h3⟩ := hb
    obtain ⟨g, hg', eg⟩ := ax_in3_nat (h := 5) (by omega) h1
    obtain ⟨j, hj', ej⟩ := ax_in3_nat (h := 3) (by omega) h2
    obtain ⟨n, hn9, en⟩ := ax_in3_nat (h := 9) (by omega) h3
    have hg : g < 6 := by omega
    have hj : j < 4 := by omega
    rw [eg, ej, en]
    obtain ⟨⟨z, hz, p1, p2⟩, p3, p4, p5⟩ := r6 j hj
    have z0 : 0 + (623 + 2 * j) = 623 + 2 * j := Nat.zero_add _
    by_cases hs : I 667 j = nI 1
    · by_cases h0 : n = 0
      · exact rl_9a l D T o (i0 := 0) h hg hj hn9 hs hz p1 p2 (fun y => absurd h0 y) (fun y => absurd h0 y)
      · have t1 : (nI (3 * n)).toInt = 3 * n := by rw [nI_toInt (by omega)]; omega
        have t2 : (nI z - nI (3 * n)).toInt = z - 3 * n := by
          rw [Int32.toInt_sub, nI_toInt (by omega), t1]
          exact Int.bmod_eq_of_le (by omega) (by omega)
        have q1 : ¬ nI (3 * n) ≤ 0 := fun y => by
          rw [Int32.le_iff_toInt_le, t1, rl_i0] at y
          omega
        by_cases ho : x 3 < 0 ∨ nI z - nI (3 * n) < x 3
        · have rf : ax_rf (I (0 + (623 + 2 * j)) 0) (I (0 + (623 + 2 * j)) 1) (nI 1) (x 3) (nI (3 * n)) = -12 := by
            rw [z0, p3, hs, p1]
            unfold ax_rf
            rw [if_neg (by decide), if_pos rfl, if_neg q1]
            by_cases c : x 3 < 0
            · rw [if_pos c]
            · rw [if_neg c, if_neg (fun y => by
                have c2 : nI z - nI (3 * n) < x 3 := by rcases ho with y | y; exact absurd y c; exact y
                rw [Int32.lt_iff_toInt_lt] at c2
                rw [Int32.le_iff_toInt_le] at y
                omega)]
          have K := k_X10_span_no l D T o 1000 G I L 0 g j n (x 3) r1.1 hg hj hn9 (by rw [rf]; decide) (by omega)
          rw [rf] at K
          exact ay_PI.mk K (k_X11_span_out l D T o 1000 G I L 639 g j n z (x 3) r1.2.1 hg hj (by omega) hn9 hs p2 ho (by omega)) rfl h
        · have c1 : 0 ≤ (x 3).toInt := by
            apply Classical.byContradiction
            intro y
            exact ho (Or.inl (by rw [Int32.lt_iff_toInt_lt, rl_i0]; omega))
          have c2 : (x 3).toInt ≤ z - 3 * n := by
            apply Classical.byContradiction
            intro y
            exact ho (Or.inr (by rw [Int32.lt_iff_toInt_lt, t2]; omega))
          have e3 : x 3 = nI (x 3).toInt.toNat := rl_ofInt (by omega) (by omega)
          have hi : (x 3).toInt.toNat + 3 * n ≤ z := by omega
          generalize (x 3).toInt.toNat = i0 at e3 hi
          cases h9 : ax_99 (L 669) (40 * j + i0) (3 * n) with
          | true => exact rl_9a l D T o (i0 := i0) h hg hj hn9 hs hz p1 p2 (fun _ => ⟨e3, hi⟩) (fun _ => h9)
          | false =>
            rw [e3]
            have rf : ax_rf (I (0 + (623 + 2 * j)) 0) (I (0 + (623 + 2 * j)) 1) (nI 1) (nI i0) (nI (3 * n)) = nI 0 := by
              rw [z0, p3, hs, p1]
              unfold ax_rf
              rw [if_neg (by decide), if_pos rfl, if_neg q1, if_neg (fun y => ho (Or.inl (by rw [e3]; exact y))), if_pos (by rw [Int32.le_iff_toInt_le, t2, nI_toInt (by omega)]; omega)]; rfl
            have wi : ax_wi (L (0 + (624 + 2 * j))) 99 i0 (3 * n) = false := by
              rw [sp_99, decide_eq_false_iff_not] at h9
              unfold ax_wi
              rw [decide_eq_false_iff_not]
              intro y
              refine h9 (fun q hq => ?_)
              have := y q hq
              rw [Nat.zero_add, p5 (i0 + q) (by omega), ← Nat.add_assoc] at this; exact this
            obtain ⟨gn, gc, hgn, hgc, hsn, hsc⟩ := rl_gngc r2
            exact ay_PI.mk (k_X10_span_unfit l D T o 1000 G I L 0 g j i0 n r1.1 hg hj hn9 (by omega) rf wi (by omega)) (k_X11_span_unfit l D T o 1000 G I L 639 g j i0 n z (gc g) (gn g) (I 640) r1.2.1 rfl hg (hsn g hg).1 (hsn g hg).2 (hsc g hg).1 (hsc g hg).2 hj hs p2 hz (by omega) hn9 hi h9 (by omega)) rfl h
    · have sneg : I 667 j = -1 ∨ ¬ I 667 j < 0 := by
        rcases p4 with e | ⟨u, hu, e⟩
        · exact Or.inl e
        · refine Or.inr ?_
          rw [e, Int32.lt_iff_toInt_lt, nI_toInt (by omega), rl_i0]; omega
      have rf : ax_rf (I (0 + (623 + 2 * j)) 0) (I (0 + (623 + 2 * j)) 1) (nI 1) (x 3) (nI (3 * n)) = if I 667 j < 0 then -11 else -13 := by
        rw [z0, p3]
        unfold ax_rf
        rcases sneg with e | e
        · rw [e, if_pos rfl, if_pos (by decide)]
        · rw [if_neg e, if_neg (fun y => e (by rw [y]; decide)), if_neg hs]
      have K := k_X10_span_no l D T o 1000 G I L 0 g j n (x 3) r1.1 hg hj hn9 (by rw [rf]; split <;> decide) (by omega)
      rw [rf] at K
      exact ay_PI.mk K (k_X11_span_other l D T o 1000 G I L 639 g j n (x 3) r1.2.1 hg hj hn9 hs (by omega)) rfl h
