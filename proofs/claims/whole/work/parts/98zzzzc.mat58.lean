/-! ===== what 'right' tells ===== -/
theorem gz_truth {I Ir : ax_I} {Lr : ax_L} {S : Nat → Int32} {mp fr tg gn gc : Nat → Nat} (hSt : rl_St 1 I S) (hT : gw_M I S mp fr tg gn) (hsn : ∀ g, g < 6 → S (14 * g) = nI (gn g) ∧ gn g ≤ 3) (hsc : ∀ g, g < 6 → S (14 * g + 1) = nI (gc g) ∧ gc g ≤ 4) (hE : gw_E fr tg) (h : ax_irRv Ir Lr 639 mp fr tg gn gc S = true) :
    gw_w mp fr tg gn gc S 6 = true ∧ ax_exRv (fun _ _ => 0) 639 (mp 2) (fr 2) (tg 2) (mp 3) (fr 3) (tg 3) gn gc S = true ∧ ax_gaRv (fun _ _ => 0) (fun _ _ => 0) 639 5 3 1 6 mp fr tg gn gc S = true ∧ (∀ z, z < gn (tg 1) → mx_H S gn gc (mp 1) (fr 1) (tg 1) z z = 1) ∧ ∀ z, z < gn (fr 2) → (mx_H S gn gc (mp 2) (fr 2) (tg 2) (gn (tg 2) + z) (gn (tg 2) + z)).natAbs ≤ 4374 := by
  have hW := hSt.2.1
  have hWm := hSt.2.2.1
  rw [(gw_ref (Ir := Ir) (Lr := Lr) hSt hT hsn hsc hE).1] at h
  obtain ⟨hw, hV⟩ := Bool.and_eq_true_iff.mp h
  have e7 : gw_alr (gw_w mp fr tg gn gc S) 7 = (gw_alr (gw_w mp fr tg gn gc S) 6 && gw_w mp fr tg gn gc S 6) := rfl
  rw [e7] at hw
  unfold gw_V at hV
  simp only [Bool.and_eq_true] at hV
  obtain ⟨⟨⟨⟨⟨v1, v2⟩, v3⟩, v4⟩, v5⟩, v6⟩ := hV
  obtain ⟨M1, -, -⟩ := hT 1 (by omega)
  obtain ⟨M2, -, -⟩ := hT 2 (by omega)
  refine ⟨(Bool.and_eq_true_iff.mp hw).2, v3, v6, fun z hz => ?_, fun z hz => ?_⟩
  · obtain ⟨-, k1⟩ := rl_M1t hW hWm hsn hsc M1
    obtain ⟨⟨c2, c3, c4⟩, c5⟩ := k1 (fun _ _ => 0)
    generalize ax_M1t 639 (mp 1) (tg 1) (gn (fr 1)) (gn (tg 1)) (gc (tg 1)) S (fun _ _ => 0) = Y at *
    have on : ∀ n, n ≤ gn (tg 1) → ax_on (Y 646) n = true → ∀ z, z < n → Y 646 (7 * z) = 1 := by
      intro n
      induction n with
      | zero => exact fun _ _ z hz => absurd hz (Nat.not_lt_zero _)
      | succ n ih =>
        intro hn ho z hz
        have e : ax_on (Y 646) (n + 1) = (ax_on (Y 646) n && decide (Y 646 (7 * n) = 1)) := rfl
        rw [e] at ho
        obtain ⟨o1, o2⟩ := Bool.and_eq_true_iff.mp ho
        by_cases c : z = n
        · rw [c]; exact of_decide_eq_true o2
        · exact ih (by omega) o1 z (by omega)
    have h1 := on (gn (tg 1)) (Nat.le_refl _) v2 z hz
    have hm := (hsn _ M1.2.2.1).2
    rw [show 7 * z = 6 * z + z by omega, c3 z z (by omega) (by omega)] at h1
    have e : gx_R (gn (tg 1)) (mx_H S gn gc (mp 1) (fr 1) (tg 1)) z z = mx_H S gn gc (mp 1) (fr 1) (tg 1) z z := if_pos ⟨hz, hz⟩
    rw [e] at h1
    have ok := gz_fit hW hWm hsn hsc M1 z z (by omega) (by omega)
    exact mt_inj ok (show mt_ok 1 by unfold mt_ok; decide) h1
  · obtain ⟨-, k1⟩ := rl_M1t hW hWm hsn hsc M2
    obtain ⟨⟨c2, c3, c4⟩, c5⟩ := k1 (fun _ _ => 0)
    obtain ⟨-, k2⟩ := rl_N1t (t := 644) hW hsn hsc M2.2.1 (by omega) (by omega)
    obtain ⟨d1, d2, d3⟩ := k2 (ax_M1t 639 (mp 2) (tg 2) (gn (fr 2)) (gn (tg 2)) (gc (tg 2)) S (fun _ _ => 0))
    have v4' := v4
    rw [ax_alike_iff] at v4'
    have hn := (hsn _ M2.2.1).2
    have h1 := v4' (6 * z + z) (by omega)
    rw [d2 645 (by omega) (by omega) (by omega), d1 z z (by omega) (by omega), c4 z z (by omega) (by omega)] at h1
    have e : gx_N (gn (tg 2)) (gn (fr 2)) (mx_H S gn gc (mp 2) (fr 2) (tg 2)) z z = mx_H S gn gc (mp 2) (fr 2) (tg 2) (gn (tg 2) + z) (gn (tg 2) + z) := if_pos ⟨hz, hz⟩
    rw [e] at h1
    have ok := gz_fit hW hWm hsn hsc M2 (gn (tg 2) + z) (gn (tg 2) + z) (by omega) (by omega)
    rw [mt_inj ok (d3 z hz).1 h1]
    exact (gy_own hW hsn hsc M2.2.1).2 z hz
