/-! ===== rings of a group, in both; pairs: groupIs, ring ===== -/
theorem cg_bd {w N : Nat} {X : Nat → Nat → Int} (hw : w ≤ 3) (hX : ∀ r j, r < N → (X r j).natAbs ≤ 9) (hz : ∀ r j, r < N → w ≤ j → X r j = 0) : cg_B w (mt_nt w N X) ∧ (∀ k j, (mt_nt w N X k j).natAbs ≤ 900000000) ∧ (mt_nt w N X 0 0).natAbs ≤ 9 ∧ (mt_nt w N X 1 1).natAbs ≤ 333 ∧ (mt_nt w N X 2 2).natAbs ≤ 443889 := by
  obtain ⟨n1, n2, n3, n4⟩ := mt_nt9 hw hX hz
  have zw : ∀ k j, w ≤ k → mt_nt w N X k j = 0 := fun k j hk => by unfold mt_nt; rw [if_neg (by omega)]
  have e0 : mt_E (fun _ => 9) 0 0 = 9 := by decide
  have e1 : mt_E (fun _ => 9) 1 1 = 333 := by decide
  have e2 : mt_E (fun _ => 9) 2 2 = 443889 := by decide
  have hB : cg_B w (mt_nt w N X) := ⟨n1.1, zw⟩
  have d0 : (mt_nt w N X 0 0).natAbs ≤ 9 := by
    by_cases h : 0 < w
    · rw [← e0]; exact n2 0 h
    · rw [zw 0 0 (by omega)]; exact Nat.zero_le _
  have d1 : (mt_nt w N X 1 1).natAbs ≤ 333 := by
    by_cases h : 1 < w
    · rw [← e1]; exact n2 1 h
    · rw [zw 1 1 (by omega)]; exact Nat.zero_le _
  have d2 : (mt_nt w N X 2 2).natAbs ≤ 443889 := by
    by_cases h : 2 < w
    · rw [← e2]; exact n2 2 h
    · rw [zw 2 2 (by omega)]; exact Nat.zero_le _
  refine ⟨hB, fun k j => ?_, d0, d1, d2⟩
  by_cases h1 : j < k
  · rw [hB.low k j h1]; exact Nat.zero_le _
  by_cases h2 : w ≤ j
  · rw [hB.out k j h2]; exact Nat.zero_le _
  rcases (show (k = 0 ∧ j = 0) ∨ (k = 0 ∧ j = 1) ∨ (k = 0 ∧ j = 2) ∨ (k = 1 ∧ j = 1) ∨ (k = 1 ∧ j = 2) ∨ (k = 2 ∧ j = 2) by omega) with ⟨rfl, rfl⟩ | ⟨rfl, rfl⟩ | ⟨rfl, rfl⟩ | ⟨rfl, rfl⟩ | ⟨rfl, rfl⟩ | ⟨rfl, rfl⟩
  · omega
  · have := n3 (by omega); omega
  · have := (n4 (by omega)).2; omega
  · omega
  · have := (n4 (by omega)).1; omega
  · omega
theorem rl_rings {I : ax_I} {S : Nat → Int32} {gn gc : Nat → Nat} {g : Nat} (h : rl_St 1 I S) (hsn : ∀ g, g < 6 → S (14 * g) = nI (gn g) ∧ gn g ≤ 3) (hsc : ∀ g, g < 6 → S (14 * g + 1) = nI (gc g) ∧ gc g ≤ 4) (hg : g < 6) :
    ∃ r : Nat → Nat, (∀ i j, i < j → j < 3 → r i ∣ r j) ∧ (∃ B, 0 < B ∧ B ≤ 4374 ∧ og_b B 3 r) ∧ gr_is r (mt_N S gn gc g) ∧ cg_B (gn g) (mt_N S gn gc g) ∧ ((∀ k j, (mt_N S gn gc g k j).natAbs ≤ 900000000) ∧ (mt_N S gn gc g 0 0).natAbs ≤ 9 ∧ (mt_N S gn gc g 1 1).natAbs ≤ 333 ∧ (mt_N S gn gc g 2 2).natAbs ≤ 443889) ∧
      (∀ L, ∃ Y, ax_R1 639 g (gc g) (gn g) gr_F S L = some Y ∧ (∀ q, q ≠ 651 → q ≠ 652 → Y q = L q) ∧ og_at Y 652 (gn g) r) ∧
      ∀ J, rl_St 1 J S → ∀ L x, (x < 599 ∨ 605 ≤ x) → og_at (ax_wrL J L 0 g x gn gc) x (gn g) r ∧ ∀ q, (q < 599 ∨ 605 < q) → q ≠ x → ax_wrL J L 0 g x gn gc q = L q := by
  obtain ⟨n1, n2⟩ := hsn g hg
  obtain ⟨c1, c2⟩ := hsc g hg
  obtain ⟨n', c', z1, z2, z3, z4, z5⟩ := h.2.1 g hg
  have ec : c' = gc g := (nI_eq (by omega) (by omega)).mp (z4.symm.trans c1)
  subst ec
  obtain ⟨Y0, r, -, -, -, a1, a2, a3⟩ := gr_ref (S := S) (m := 639) (g := g) n2 z5 (fun _ _ => 0)
  have h9 : ∀ r j, r < gc g → (mt_rel S g (gn g) r j).natAbs ≤ 9 := fun r j hr => by
    unfold mt_rel
    split
    · exact mt_9 (z5 r j hr (by omega))
    · exact Nat.zero_le _
  obtain ⟨b1, b2, b3, b4, b5⟩ := cg_bd (N := gc g) (X := mt_rel S g (gn g)) n2 h9 (fun r j _ hj => by unfold mt_rel; rw [if_neg (by omega)])
  obtain ⟨-, m2, -⟩ := rl_nth (x := 597) h hsn hsc hg (by omega) (fun _ _ => 0)
  have hD : gr_D (gr_M S g (gc g) (gn g)) (mt_N S gn gc g) := gr_D.sp (n := gc g) (m := gn g) (fun i hi => (m2.2.2 i hi).cg (fun j => by unfold gr_M; rw [if_pos hi])) (fun i hi => mt_sp.le (fun k hk => (mt_sp.row (X := gr_M S g (gc g) (gn g)) hk).cg (fun j => by unfold gr_M; rw [if_pos hk])) (m2.2.1 i hi)) (fun i j hi => by unfold gr_M; rw [if_neg (by omega)]) (fun i j hi => b1.2 i j hi)
  have a1N : gr_is r (mt_N S gn gc g) := a1.of_D hD.symm
  refine ⟨r, a2, a3, a1N, b1, ⟨b2, b3, b4, b5⟩, fun L => ?_, fun J hJ L x hx => ?_⟩
  · obtain ⟨Y, s, y1, y2, y3, y4, -⟩ := gr_ref (S := S) (m := 639) (g := g) n2 z5 L
    have eq := y4.uniq a1 (gr_D.refl _)
    exact ⟨Y, y1, y2, fun k hk => by rw [← eq k (by omega)]; exact y3 k hk⟩
  · obtain ⟨p1, -, p3⟩ := rl_nth (x := 597) hJ hsn hsc hg (by omega) L
    have b2' : ∀ k j, (mt_N S gn gc g k j).natAbs ≤ 900000000 := b2
    have m22 : ∀ k e j l, mt_ok (gv2 (mt_N S gn gc g k) (mt_N S gn gc g e) j l) := fun k e j l => by
      have := mt_mm (A := 900000000) (B := 900000000) (b2' k j) (b2' e l) (b2' k l) (b2' e j)
      unfold mt_ok gv2; omega
    have o2 : (mt_N S gn gc g 0 0 * mt_N S gn gc g 1 1).natAbs ≤ 9 * 333 := by rw [gr_n3]; exact Nat.mul_le_mul b3 b4
    have o3 : (mt_N S gn gc g 0 0 * mt_N S gn gc g 1 1 * mt_N S gn gc g 2 2).natAbs ≤ 9 * 333 * 443889 := by rw [gr_n3]; exact Nat.mul_le_mul o2 b5
    obtain ⟨s, s1, s2, s3⟩ := gr_ofq (L := ax_nth J 1 597 g (gn g) (gc g) L) (x := x) (b := 597) (v := gn g) (B := mt_N S gn gc g) (by omega) n2 p1 b1 (fun k j => by have := b2' k j; unfold mt_ok; omega) m22 ⟨Nat.lt_of_le_of_lt o2 (by decide), Nat.lt_of_le_of_lt o3 (by decide)⟩
    have eq := s1.uniq a1N (gr_D.refl _)
    exact ⟨fun k hk => by rw [← eq k (by omega)]; exact s2 k hk, fun q hq hqx => (s3 q hqx).trans (p3 q (by omega))⟩
theorem og_ow_cg {H K : Nat → Int64} : ∀ n, (∀ k, k < n → H k = K k) → ax_ow H n = ax_ow K n := by
  intro n
  induction n with
  | zero => exact fun _ => rfl
  | succ n ih => intro h; show ax_ow H n + (if H n = 1 then 0 else 1) = ax_ow K n + (if K n = 1 then 0 else 1); rw [ih (fun k hk => h k (by omega)), h n (by omega)]
theorem gr_idx {r : Nat → Nat} {w : Nat} {B : Nat → Nat → Int} (hw : w ≤ 3) (hr : gr_is r B) (hB : cg_B w B) : (w = 1 → (r 0 : Int) = B 0 0) ∧ (w = 2 → ((r 0 * r 1 : Nat) : Int) = B 0 0 * B 1 1) ∧ (w = 3 → ((r 0 * r 1 * r 2 : Nat) : Int) = B 0 0 * B 1 1 * B 2 2) := by
  have fin : ∀ (x : Nat) (y : Int), 0 ≤ y → (∀ c : Int, c ∣ (x : Int) ↔ c ∣ y) → (x : Int) = y := fun x y h0 h => by
    have := gr_eqd (x := x) (y := y.natAbs) (fun c => by rw [h c, Int.dvd_natAbs])
    omega
  refine ⟨fun h => ?_, fun h => ?_, fun h => ?_⟩
  · subst h
    refine fin _ _ (hB.1.2.1 0 (by omega)) (fun c => (hr.1 c).symm.trans ((cg_d1 hB c).symm.trans ⟨fun z => z 0 (by omega) 0 (Nat.le_refl _) (by omega), fun z k hk j h1 h2 => ?_⟩))
    have : k = 0 := by omega
    have : j = 0 := by omega
    subst k; subst j; exact z
  · subst h
    have e0 : gv2 (B 0) (B 1) 0 1 = B 0 0 * B 1 1 := by unfold gv2; rw [hB.low 1 0 (by omega)]; simp
    refine fin _ _ (Int.mul_nonneg (hB.1.2.1 0 (by omega)) (hB.1.2.1 1 (by omega))) (fun c => (hr.2.1 c).symm.trans ((cg_d2 hB c).symm.trans ⟨fun z => by rw [← e0]; exact z 0 (by omega) 1 (by omega) (by omega) 0 (by omega) 1 (by omega) (by omega), fun z k hk e h1 h2 i hi j h3 h4 => ?_⟩))
    have : i = 0 := by omega
    have : j = 1 := by omega
    subst i; subst j
    by_cases ek : k = e
    · subst ek; rw [gv2_z]; exact gv_d0 c
    · have : k = 0 := by omega
      have : e = 1 := by omega
      subst k; subst e; rw [e0]; exact z
  · subst h
    exact fin _ _ (Int.mul_nonneg (Int.mul_nonneg (hB.1.2.1 0 (by omega)) (hB.1.2.1 1 (by omega))) (hB.1.2.1 2 (by omega))) (fun c => (hr.2.2.1 c).symm.trans (cg_d3 hB c).symm)
theorem gr_elx {H : Nat → Int64} {L : ax_L} {r : Nat → Nat} {w b : Nat} {B : Nat → Nat → Int} (hw : w ≤ 3) (hr : gr_is r B) (hB : cg_B w B) (hH : ∀ k, k < w → H k = Int64.ofInt (r k : Int)) (hL : mt_lat L b B) : ax_el H w = ax_ixp b L w := by
  obtain ⟨i1, i2, i3⟩ := gr_idx hw hr hB
  rcases (show w = 0 ∨ w = 1 ∨ w = 2 ∨ w = 3 by omega) with rfl | rfl | rfl | rfl
  · rfl
  · show 1 * H 0 = 1 * L (b + 2 + 0) 0
    rw [hH 0 (by omega), hL 0 0 (by omega) (by omega), i1 rfl]
  · show 1 * H 0 * H 1 = 1 * L (b + 2 + 0) 0 * L (b + 2 + 1) 1
    rw [hH 0 (by omega), hH 1 (by omega), hL 0 0 (by omega) (by omega), hL 1 1 (by omega) (by omega), Int64.one_mul, Int64.one_mul, ← Int64.ofInt_mul, ← Int64.ofInt_mul, ← i2 rfl, Int.natCast_mul]
  · show 1 * H 0 * H 1 * H 2 = 1 * L (b + 2 + 0) 0 * L (b + 2 + 1) 1 * L (b + 2 + 2) 2
    rw [hH 0 (by omega), hH 1 (by omega), hH 2 (by omega), hL 0 0 (by omega) (by omega), hL 1 1 (by omega) (by omega), hL 2 2 (by omega) (by omega), Int64.one_mul, Int64.one_mul, ← Int64.ofInt_mul, ← Int64.ofInt_mul, ← Int64.ofInt_mul, ← Int64.ofInt_mul, ← i3 rfl, Int.natCast_mul, Int.natCast_mul]
theorem rl_wrI_ne {I : ax_I} {g x q : Nat} {gn : Nat → Nat} (h1 : q ≠ 597) (h2 : q ≠ x) : ax_wrI I 0 g x gn q = I q := by
  unfold ax_wrI; rw [ax_u_ne h2, ax_u_ne (by omega)]
set_option maxRecDepth 20000 in
theorem rl_3 (l : Launch) (D : va_G) (T : Nat → ClassId) (o : Nat) : law_P3 l D T o 1000 rl_Rel 0 639 := by
  intro x G I L h
  obtain ⟨r1, r2, -⟩ := id h
  cases hb : ax_rng (x 1) 6 with
  | false => exact ay_PI.mk (k_X10_ring_bad l D T o 1000 G I L 0 (x 1) (x 2) r1.1 hb (by omega)) (k_X11_ring_bad l D T o 1000 G I L 639 (x 1) (x 2) r1.2.1 (by omega) (by rw [← rl_rng6, hb]; rfl)) rfl h
  | true =>
    rw [rl_rng6] at hb
    obtain ⟨g, hg', eg⟩ := ax_in3_nat (h := 5) (by omega) hb
    have hg : g < 6 := by omega
    obtain ⟨gn, gc, hgn, hgc, hsn, hsc⟩ := rl_gngc r2
    rw [eg] at hb ⊢
    cases hk : ax_rng (x 2) (nI (gn g)) with
    | false =>
      refine ay_PI.mk (k_X10_ring_out l D T o 1000 G I L 0 g gn gc (x 2) r1.1 hgn hgc hg hk (by omega)) (k_X11_ring_bad l D T o 1000 G I L 639 (nI g) (x 2) r1.2.1 (by omega) ?_) rfl h
      rw [nI_clamp (by omega), show I (639 + 1) (14 * g) = nI (gn g) from (hsn g hg).1, hb]
      rw [rl_rngS _ (by have := (hsn g hg).2; omega)] at hk
      exact hk
    | true =>
      rw [rl_rngS _ (by have := (hsn g hg).2; omega)] at hk
      obtain ⟨k, hk', ek⟩ := ax_in3_natS (by have := (hsn g hg).2; omega) hk
      rw [ek]
      obtain ⟨r, -, -, -, -, -, R, C⟩ := rl_rings r2 hsn hsc hg
      obtain ⟨c1, c2⟩ := C I r2 L 616 (by omega)
      obtain ⟨Y, y1, y2, y3⟩ := R (ax_wrL I L 0 g 616 gn gc)
      refine ay_PI.mk (k_X10_ring l D T o 1000 G I L 0 g k gn gc r1.1 hgn hgc hg hk' (by omega))
        (k_X11_ring l D T o 1000 G (ax_wrI I 0 g 615 gn) (ax_wrL I L 0 g 616 gn gc) 639 g k (gc g) (gn g) gr_F (I 640) Y r1.2.1 (rl_wrI_ne (by omega) (by omega)) hg (hsn g hg).1 (hsn g hg).2 (hsc g hg).1 (hsc g hg).2 hk' y1 (by omega)) ?_ ?_
      · show (ax_wrL I L 0 g 616 gn gc 616 k).toInt32 = (Y 652 k).toInt32
        rw [c1 k hk', y3 k hk']
      · refine h.work (fun q hq => by rw [ax_RI_ne (by omega), rl_wrI_ne (by omega) (by omega)]) (fun z hz => by rw [ax_RI_o (by omega) (by omega) (by omega), rl_wrI_ne (by omega) (by omega)]) (fun q hq => ?_)
        rw [y2 q (by omega) (by omega), c2 q (by omega) (by omega)]
set_option maxRecDepth 20000 in
theorem rl_2 (l : Launch) (D : va_G) (T : Nat → ClassId) (o : Nat) : law_P2 l D T o 1000 rl_Rel 0 639 := by
  intro x G I L h
  obtain ⟨r1, r2, -⟩ := id h
  cases hb : ax_rng (x 1) 6 with
  | false => exact ay_PI.mk (k_X10_groupIs_bad l D T o 1000 G I L 0 (x 1) (x 2) r1.1 hb (by omega)) (k_X11_groupIs_bad l D T o 1000 G I L 639 (x 1) (x 2) r1.2.1 (by omega) (by rw [← rl_rng6, hb]; rfl)) rfl h
  | true =>
    rw [rl_rng6] at hb
    obtain ⟨g, hg', eg⟩ := ax_in3_nat (h := 5) (by omega) hb
    have hg : g < 6 := by omega
    obtain ⟨gn, gc, hgn, hgc, hsn, hsc⟩ := rl_gngc r2
    rw [eg] at hb ⊢
    cases hu : ax_in3 (x 2).toInt64 0 3 with
    | false =>
      refine ay_PI.mk (k_X10_groupIs_out l D T o 1000 G I L 0 g (x 2) r1.1 hg ?_ (by omega)) (k_X11_groupIs_bad l D T o 1000 G I L 639 (nI g) (x 2) r1.2.1 (by omega) (by rw [hb, hu]; rfl)) rfl h
      rw [rl_in3, decide_eq_false_iff_not] at hu
      have a1 : (0 : Int64).toInt = 0 := by decide
      have a2 : (3 : Int64).toInt = 3 := by decide
      omega
    | true =>
      obtain ⟨t, ht, et⟩ := ax_in3_nat (h := 3) (by omega) hu
      rw [et]
      obtain ⟨r, -, -, ris, hB, -, R, C⟩ := rl_rings r2 hsn hsc hg
      have ref : ∀ J M, J 640 = I 640 → ∃ Y, (∀ q, q ≠ 651 → q ≠ 652 → Y q = M q) ∧ og_at Y 652 (gn g) r ∧ ax_Con l D T o yX11_groupIs cX11_groupIs 3 (some .int) 1000 0 0 [.ref 639, .int (nI g), .int (nI t)] G J M (fun v G' I' L' => v = some (.int (an_gi t (gc g) (gn g) (Y 652))) ∧ G = G' ∧ ax_RI 639 (gc g) (gn g) J = I' ∧ Y = L') := fun J M hJ => by
        obtain ⟨Y, y1, y2, y3⟩ := R M
        exact ⟨Y, y2, y3, k_X11_groupIs l D T o 1000 G J M 639 g t (gc g) (gn g) gr_F (I 640) Y r1.2.1 hJ hg (hsn g hg).1 (hsn g hg).2 (hsc g hg).1 (hsc g hg).2 ht y1 (by omega)⟩
      have hw3 := (hsn g hg).2
      rcases (show t = 0 ∨ t = 1 ∨ t = 2 ∨ t = 3 by omega) with rfl | rfl | rfl | rfl
      · obtain ⟨Y, y2, y3, K⟩ := ref I L rfl
        exact ay_PI.mk (k_X10_groupIs_0 l D T o 1000 G I L 0 g gn gc r1.1 hgn hgc hg (by omega)) K rfl (h.work (fun q hq => ax_RI_ne (by omega)) (fun z hz => ax_RI_o (by omega) (by omega) (by omega)) (fun q hq => y2 q (by omega) (by omega)))
      · obtain ⟨Y, y2, y3, K⟩ := ref I L rfl
        exact ay_PI.mk (k_X10_groupIs_1 l D T o 1000 G I L 0 g gn gc r1.1 hgn hgc hg (by omega)) K rfl (h.work (fun q hq => ax_RI_ne (by omega)) (fun z hz => ax_RI_o (by omega) (by omega) (by omega)) (fun q hq => y2 q (by omega) (by omega)))
      · obtain ⟨c1, c2⟩ := C I r2 L 616 (by omega)
        obtain ⟨Y, y2, y3, K⟩ := ref (ax_wrI I 0 g 615 gn) (ax_wrL I L 0 g 616 gn gc) (rl_wrI_ne (by omega) (by omega))
        refine ay_PI.mk (k_X10_groupIs_2 l D T o 1000 G I L 0 g gn gc r1.1 hgn hgc hg (by omega)) K ?_ ?_
        · show nI (ax_cn (ax_wrL I L 0 g 616 gn gc 616) (gn g)) = nI (ax_ow (Y 652) (gn g))
          rw [og_cn, og_ow_cg (K := Y 652) (gn g) (fun k hk => by rw [c1 k hk, y3 k hk])]
        · refine h.work (fun q hq => by rw [ax_RI_ne (by omega), rl_wrI_ne (by omega) (by omega)]) (fun z hz => by rw [ax_RI_o (by omega) (by omega) (by omega), rl_wrI_ne (by omega) (by omega)]) (fun q hq => ?_)
          rw [y2 q (by omega) (by omega), c2 q (by omega) (by omega)]
      · obtain ⟨n1, n2, n3⟩ := rl_nth (x := 597) r2 hsn hsc hg (by omega) L
        obtain ⟨Y, y2, y3, K⟩ := ref (ax_u I 597 2 (nI (gn g))) (ax_nth I 1 597 g (gn g) (gc g) L) (ax_u_ne (by omega))
        refine ay_PI.mk (k_X10_groupIs_3 l D T o 1000 G I L 0 g gn gc r1.1 hgn hgc hg (by omega)) K ?_ ?_
        · show (ax_ixp 597 (ax_nth I 1 597 g (gn g) (gc g) L) (gn g)).toInt32 = (ax_el (Y 652) (gn g)).toInt32
          rw [gr_elx hw3 ris hB y3 n1]
        · refine h.work (fun q hq => by rw [ax_RI_ne (by omega), ax_u_ne (by omega)]) (fun z hz => by rw [ax_RI_o (by omega) (by omega) (by omega), ax_u_ne (by omega)]) (fun q hq => ?_)
          rw [y2 q (by omega) (by omega), n3 q (by omega)]
