/-! ===== text: the table is left by what is nothing, by both ===== -/
theorem t_mkn {w n : Nat} {C : ax_L} : ax_mkn 317 318 597 w (n + 1) C = ax_cp (ax_rfo 597 318 w 0 (w - 0) (ax_cp (ax_mkn 317 318 597 w n C) 317 318 (3 * n) 0 3)) 318 317 0 (3 * n) 3 := rfl
theorem t_rtk {b n : Nat} {gn : Nat → Nat} {J : ax_L × Bool} : ax_rtk 639 b gn (n + 1) J = ax_rt3 639 n 3 (ax_rs 649 644 0 (gn b - 0) (ax_st 649 (gn b) ((ax_rtk 639 b gn n J).1 661 (3 * n)) ((ax_rtk 639 b gn n J).1 661 (3 * n + 1)) ((ax_rtk 639 b gn n J).1 661 (3 * n + 2)) (ax_rtk 639 b gn n J).1), (ax_rtk 639 b gn n J).2) := rfl
theorem t_rest {gn : Nat → Nat} {b na : Nat} {B : Nat → Nat → Int} {C0 R0 : ax_L} {tab : Nat → Int64} (hw : gn b ≤ 3) (hna : na ≤ 3) (hBh : mt_hn (gn b) B) (hl : ∀ k, k < gn b → mt_ok (B k k) ∧ 0 ≤ B k k) (h1 : mt_lat C0 597 B) (h2 : mt_at R0 644 B) (c0 : ∀ z, z < 9 → C0 317 z = tab z) (r0 : ∀ z, z < 9 → R0 661 z = tab z) (tz : ∀ z, z < 9 → (na ≤ z / 3 ∨ gn b ≤ z % 3) → tab z = 0) : ∀ n, n ≤ 3 →
    (∀ q, q ≠ 317 → q ≠ 318 → ax_mkn 317 318 597 (gn b) n C0 q = C0 q) ∧ (∀ z, z < 9 → 3 * n ≤ z → ax_mkn 317 318 597 (gn b) n C0 317 z = tab z) ∧ (∀ z, z < 3 * n → 3 * na ≤ z → ax_mkn 317 318 597 (gn b) n C0 317 z = 0) ∧
    (n ≤ na → (∀ q, q ≠ 649 → q ≠ 661 → (ax_rtk 639 b gn n (R0, true)).1 q = R0 q) ∧ (∀ z, z < 9 → 3 * n ≤ z → (ax_rtk 639 b gn n (R0, true)).1 661 z = tab z) ∧ (∀ z, z < 3 * n → (ax_rtk 639 b gn n (R0, true)).1 661 z = ax_mkn 317 318 597 (gn b) n C0 317 z) ∧ ((ax_rtk 639 b gn n (R0, true)).2 = true ↔ ∀ z, z < 3 * n → ax_in3 (ax_mkn 317 318 597 (gn b) n C0 317 z) (-99) 99 = true)) := by
  intro n
  induction n with
  | zero => exact fun _ => ⟨fun _ _ _ => rfl, fun z hz _ => c0 z hz, fun z hz => by omega, fun _ => ⟨fun _ _ _ => rfl, fun z hz _ => r0 z hz, fun z hz => by omega, ⟨fun _ z hz => by omega, fun _ => rfl⟩⟩⟩
  | succ n ih =>
    intro hn
    obtain ⟨i1, i2, i3, i4⟩ := ih (by omega)
    have t0 := tz
    rw [t_mkn]
    generalize hC : ax_mkn 317 318 597 (gn b) n C0 = C at *
    have cp1 : ∀ j, j < 3 → ax_cp C 317 318 (3 * n) 0 3 318 j = tab (3 * n + j) := fun j hj => by
      rw [ax_cp_eq]; unfold va_cpy; rw [if_pos (by omega), show 3 * n + (j - 0) = 3 * n + j by omega]; exact i2 _ (by omega) (by omega)
    have cpq : ∀ q, q ≠ 318 → ax_cp C 317 318 (3 * n) 0 3 q = C q := fun q hq => ax_cp_ne hq
    have lat : mt_lat (ax_cp C 317 318 (3 * n) 0 3) 597 B := fun k j hk hj => by rw [cpq _ (by omega), i1 _ (by omega) (by omega)]; exact h1 k j hk hj
    -- the row of the class, once it is reduced
    have back : ∀ D : ax_L, (∀ q, q ≠ 318 → D q = ax_cp C 317 318 (3 * n) 0 3 q) → (∀ q, q ≠ 317 → q ≠ 318 → ax_cp D 318 317 0 (3 * n) 3 q = C0 q) ∧ ∀ z, z < 9 → ax_cp D 318 317 0 (3 * n) 3 317 z = if 3 * n ≤ z ∧ z < 3 * n + 3 then D 318 (z - 3 * n) else C 317 z := fun D hD => by
      refine ⟨fun q q1 q2 => by rw [ax_cp_ne q1, hD q q2, cpq q q2, i1 q q1 q2], fun z hz => ?_⟩
      rw [ax_cp_eq]; unfold va_cpy
      by_cases c : 3 * n ≤ z ∧ z < 3 * n + 3
      · rw [if_pos c, if_pos c, show 0 + (z - 3 * n) = z - 3 * n by omega]
      · rw [if_neg c, if_neg c, hD 317 (by omega), cpq 317 (by omega)]
    by_cases cn : n < na
    · obtain ⟨j1, j2, j3, j4⟩ := i4 (by omega)
      rw [t_rtk]
      generalize hR : ax_rtk 639 b gn n (R0, true) = R at *
      obtain ⟨s1, s2, s3, s4⟩ := t_st3v (t := 649) (w := gn b) (a := R.1 661 (3 * n)) (b := R.1 661 (3 * n + 1)) (c := R.1 661 (3 * n + 2)) (L := R.1) hw
      have at' : mt_at (ax_st 649 (gn b) (R.1 661 (3 * n)) (R.1 661 (3 * n + 1)) (R.1 661 (3 * n + 2)) R.1) 644 B := fun k j hk hj => by rw [s1 _ (by omega), j1 _ (by omega) (by omega)]; exact h2 k j hk hj
      have zr : ∀ j, j < 3 → gn b ≤ j → tab (3 * n + j) = 0 := fun j hj h => t0 _ (by omega) (Or.inr (by omega))
      have row : ∀ j, j < 3 → ax_cp C 317 318 (3 * n) 0 3 318 j = ax_st 649 (gn b) (R.1 661 (3 * n)) (R.1 661 (3 * n + 1)) (R.1 661 (3 * n + 2)) R.1 649 j := fun j hj => by
        rw [cp1 j hj]
        rcases (show j = 0 ∨ j = 1 ∨ j = 2 by omega) with rfl | rfl | rfl
        · rw [s2]
          by_cases g : 0 < gn b
          · rw [if_pos g]; exact (j2 _ (by omega) (by omega)).symm
          · rw [if_neg g]; exact zr 0 (by omega) (by omega)
        · rw [s3]
          by_cases g : 1 < gn b
          · rw [if_pos g]; exact (j2 _ (by omega) (by omega)).symm
          · rw [if_neg g]; exact zr 1 (by omega) (by omega)
        · rw [s4]
          by_cases g : 2 < gn b
          · rw [if_pos g]; exact (j2 _ (by omega) (by omega)).symm
          · rw [if_neg g]; exact zr 2 (by omega) (by omega)
      obtain ⟨a1, a2, a3⟩ := t_row hw hBh lat at' hl row (fun j hj h => by rw [cp1 j hj]; exact zr j hj h)
      generalize ax_rfo 597 318 (gn b) 0 (gn b - 0) (ax_cp C 317 318 (3 * n) 0 3) = D at a1 a2 ⊢
      generalize ax_rs 649 644 0 (gn b - 0) (ax_st 649 (gn b) (R.1 661 (3 * n)) (R.1 661 (3 * n + 1)) (R.1 661 (3 * n + 2)) R.1) = Q at a1 a3 ⊢
      obtain ⟨b1, b2⟩ := back D a2
      obtain ⟨d1, d2, d3⟩ := t_rt3 (m := 639) (k := n) (J := (Q, R.2)) 3 (Nat.le_refl _)
      dsimp only at d1 d2 d3
      have Qq : ∀ q, q ≠ 649 → Q q = R.1 q := fun q hq => (a3 q hq).trans (s1 q hq)
      refine ⟨b1, fun z hz h3 => ?_, fun z hz hz2 => ?_, fun _ => ⟨fun q q1 q2 => ?_, fun z hz h3 => ?_, fun z hz => ?_, ?_⟩⟩
      · rw [b2 z hz, if_neg (by omega)]; exact i2 z hz (by omega)
      · omega
      · rw [d1 q q2, Qq q q1]; exact j1 q q1 q2
      · rw [d2, if_neg (by omega), Qq 661 (by omega)]; exact j2 z hz (by omega)
      · rw [d2, b2 z (by omega)]
        by_cases c : 3 * n ≤ z ∧ z < 3 * n + 3
        · rw [if_pos c, if_pos c]; exact (a1 _ (by omega)).symm
        · rw [if_neg c, if_neg c, Qq 661 (by omega)]; exact j3 z (by omega)
      · rw [d3, j4]
        refine ⟨fun h z hz => ?_, fun h => ⟨fun z hz => ?_, fun j hj => ?_⟩⟩
        · rw [b2 z (by omega)]
          by_cases c : 3 * n ≤ z ∧ z < 3 * n + 3
          · rw [if_pos c, a1 _ (by omega)]; exact h.2 _ (by omega)
          · rw [if_neg c]; exact h.1 z (by omega)
        · have := h z (by omega)
          rw [b2 z (by omega), if_neg (by omega)] at this; exact this
        · have := h (3 * n + j) (by omega)
          rw [b2 _ (by omega), if_pos (by omega), a1 _ (by omega), show 3 * n + j - 3 * n = j by omega] at this; exact this
    · obtain ⟨a1, a2⟩ := t_row0 hw hBh lat hl (fun j hj => by rw [cp1 j hj]; exact t0 _ (by omega) (Or.inl (by omega)))
      generalize ax_rfo 597 318 (gn b) 0 (gn b - 0) (ax_cp C 317 318 (3 * n) 0 3) = D at a1 a2 ⊢
      obtain ⟨b1, b2⟩ := back D a2
      refine ⟨b1, fun z hz h3 => ?_, fun z hz hz2 => ?_, fun h => by omega⟩
      · rw [b2 z hz, if_neg (by omega)]; exact i2 z hz (by omega)
      · rw [b2 z (by omega)]
        by_cases c : 3 * n ≤ z ∧ z < 3 * n + 3
        · rw [if_pos c]; exact a1 _ (by omega)
        · rw [if_neg c]; exact i3 z (by omega) hz2
