/-! ===== part: what both make ===== -/
/-- own rings, told by both -/
theorem cj_val {H H' : Nat → Int64} {r s : Nat → Nat} {n ρ : Nat} (hn : n ≤ 3) (hρ : ρ ≤ 3) (hH : ∀ k, k < n → H k = Int64.ofInt (r k : Int)) (hH' : ∀ k, k < ρ → H' k = Int64.ofInt (s k : Int)) (e : ∀ i, i < 3 → iy_pd n r i = iy_pd ρ s i) (hs : ∀ i j, i < j → j < 3 → s i ∣ s j) (hl : ∀ i, i < 3 → s i < 9223372036854775808) : ax_cn H n = ax_ow H' ρ ∧ ∀ k, (if ax_cn H n ≤ k then (-3 : Int32) else (ax_owc H n k).toInt32) = ax_or H' k ρ 0 0 := by
  obtain ⟨c1, c2⟩ := iy_ow hn hρ hH hH' e
  refine ⟨by rw [c1, og_cn], fun k => ?_⟩
  rw [← og_own (j := k) (og_ones hH' (fun k hk => hl k (by omega)) (fun i j hij hj => hs i j hij (by omega)))]
  rw [c1]
  by_cases h : ax_cn H' ρ ≤ k
  · rw [if_pos h, if_pos h]
  · rw [if_neg h, if_neg h, c2 k (by omega)]
/-- own rows are small -/
theorem cj_own {S : Nat → Int32} {gn gc : Nat → Nat} {r : Nat} (hW : rl_Wg S) (hsn : ∀ g, g < 6 → S (14 * g) = nI (gn g) ∧ gn g ≤ 3) (hsc : ∀ g, g < 6 → S (14 * g + 1) = nI (gc g) ∧ gc g ≤ 4) (hr : r < 6) : ∀ k j, (mt_N S gn gc r k j).natAbs ≤ 4374 := fun k j => by
  obtain ⟨g1, g2⟩ := gy_own hW hsn hsc hr
  obtain ⟨-, hB, -⟩ := mx_own hW hsn hsc hr
  by_cases hj : j < gn r
  case neg => rw [hB.out k j (by omega)]; exact Nat.zero_le _
  rcases g1 with h | h
  · have := px_e hB h k j
    have := g2 j hj
    omega
  · by_cases hk : k < gn r
    · obtain ⟨-, -, -, -, ⟨c, c3, hc⟩, -, -⟩ := id h
      have := hc k j hk; omega
    · rw [hB.2 k j (by omega)]; exact Nat.zero_le _
/-- the reference goes so far -/
theorem rl_pt {I : ax_I} {S : Nat → Int32} {gn gc : Nat → Nat} {j p r : Nat} {Lc L0 : ax_L} (hSt : rl_St 1 I S) (hsn : ∀ g, g < 6 → S (14 * g) = nI (gn g) ∧ gn g ≤ 3) (hsc : ∀ g, g < 6 → S (14 * g + 1) = nI (gc g) ∧ gc g ≤ 4) (hM : ax_Mp S j p r (gn p) (gn r)) (ht : ∀ i, i < 9 → I 7 (9 * j + i) = S (84 + 11 * j + 2 + i)) :
    ∃ Z R, ax_N1 639 r 648 (gn r) (gc r) gr_F S L0 = some Z ∧ mt_at Z 648 (mt_N S gn gc r) ∧ ax_wlf S 639 j p (gn p) (gn r) (gc p) 0 Z = R ∧ ax_ldv I Lc 483 1 j p r (gn p) (gc p) (gn r) (gc r) = R.1 ∧ (∀ q, q ≠ 643 → q ≠ 648 → q ≠ 649 → q ≠ 650 → R.2 q = L0 q) ∧
      ∃ Y, ax_M1 639 j r (gn p) (gn r) (gc r) gr_F S R.2 = some Y ∧ mt_at Y 646 (gx_R (gn r) (mx_H S gn gc j p r)) ∧ mt_at Y 645 (gx_N (gn r) (gn p) (mx_H S gn gc j p r)) ∧ (∀ q, (q < 643 ∨ q = 644 ∨ 650 < q) → Y q = L0 q) ∧
        ∀ g, g < 6 → ∃ X, ax_N1 639 g 644 (gn g) (gc g) gr_F S Y = some X ∧ mt_at X 644 (mt_N S gn gc g) ∧ mt_at X 646 (gx_R (gn r) (mx_H S gn gc j p r)) ∧ mt_at X 645 (gx_N (gn r) (gn p) (mx_H S gn gc j p r)) ∧ ∀ q, (q < 643 ∨ 650 < q) → X q = L0 q := by
  obtain ⟨m1, m2, m3, -⟩ := id hM
  have eF : gr_F = 9223372036854775808 + 27670116110564327425 := rfl
  obtain ⟨Z, y1, y2, -, -⟩ := rl_N1 (t := 648) hSt.2.1 hsn hsc m3 (by omega) (by omega) L0
  obtain ⟨fu, hfu⟩ := ax_N1t_spec (rl_N1t (t := 648) hSt.2.1 hsn hsc m3 (by omega) (by omega)).1 L0
  have eY : ax_wlf S 639 j p (gn p) (gn r) (gc p) 0 Z = ax_wl 639 j p r (gn p) (gn r) (gc p) (gc r) S L0 := by
    unfold ax_wl; rw [rl_N1u hfu y1]
  obtain ⟨w1, w2, w3⟩ := rl_well (Lc := Lc) (Lr := L0) hSt hsn hsc hM ht
  refine ⟨Z, _, by rw [eF]; exact rl_N1m y1, y2, eY, w1, w3, ?_⟩
  obtain ⟨Y, z1, ⟨z2, z3, z4⟩, z5, -, -⟩ := rl_M1 hSt.2.1 hSt.2.2.1 hsn hsc hM (ax_wl 639 j p r (gn p) (gn r) (gc p) (gc r) S L0).2
  refine ⟨Y, by rw [eF]; exact rl_M1m z1, z3, z4, fun q hq => ?_, fun g hg => ?_⟩
  · rw [z5 q (by omega) (by omega) (by omega) (by omega) (by omega) (by omega), w3 q (by omega) (by omega) (by omega) (by omega)]
  · obtain ⟨X, x1, x2, x3, -⟩ := rl_N1 (t := 644) hSt.2.1 hsn hsc hg (by omega) (by omega) Y
    refine ⟨X, by rw [eF]; exact rl_N1m x1, ?_, ?_, ?_, fun q hq => ?_⟩
    · exact x2
    · intro k' j' h1 h2; rw [x3 646 (by omega) (by omega) (by omega)]; exact z3 k' j' h1 h2
    · intro k' j' h1 h2; rw [x3 645 (by omega) (by omega) (by omega)]; exact z4 k' j' h1 h2
    · rw [x3 q (by omega) (by omega) (by omega), z5 q (by omega) (by omega) (by omega) (by omega) (by omega) (by omega), w3 q (by omega) (by omega) (by omega) (by omega)]
