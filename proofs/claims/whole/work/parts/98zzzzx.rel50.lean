/-! ===== part: the rings, by both ===== -/
/-- what is nothing comes to nothing -/
theorem rl_ker {S : Nat → Int32} {gn gc : Nat → Nat} {j p r : Nat} {Z : ax_L} (hW : rl_Wg S) (hWm : rl_Wm S) (hsn : ∀ g, g < 6 → S (14 * g) = nI (gn g) ∧ gn g ≤ 3) (hsc : ∀ g, g < 6 → S (14 * g + 1) = nI (gc g) ∧ gc g ≤ 4) (hM : ax_Mp S j p r (gn p) (gn r)) (hZ : mt_at Z 648 (mt_N S gn gc r)) (hw : (ax_wlf S 639 j p (gn p) (gn r) (gc p) 0 Z).1 = true) : ∀ a, a < gn p → mt_sp (gn p) (gx_N (gn r) (gn p) (mx_H S gn gc j p r)) (mt_N S gn gc p a) := by
  obtain ⟨m1, m2, m3, -⟩ := id hM
  obtain ⟨⟨hH, s1, s2⟩, -, -⟩ := mx_Hf hW hWm hsn hsc hM
  obtain ⟨-, hBp, n1, n2⟩ := mx_own hW hsn hsc m2
  obtain ⟨-, hBr, -, -⟩ := mx_own hW hsn hsc m3
  have wl := gz_well hW hWm hsn hsc hM (gc p) 0 Z (by omega) hZ hw
  intro a ha
  have := gz_lin (D := gz_j (gn p) (gn r) (mx_t S j)) (fun f g c z => gz_j.lin z) (fun z => gz_j0 z) (fun i hi => wl i (Nat.zero_le _) hi) (n1 a ha)
  exact gz_N hH.ec s2 (fun i hi => hBp.out a i hi) (fun k j _ hj => hBr.out k j hj) this
theorem rl_d0 {S : Nat → Int32} {gn gc : Nat → Nat} {j p r : Nat} {L2 X Z : ax_L} (hW : rl_Wg S) (hWm : rl_Wm S) (hsn : ∀ g, g < 6 → S (14 * g) = nI (gn g) ∧ gn g ≤ 3) (hsc : ∀ g, g < 6 → S (14 * g + 1) = nI (gc g) ∧ gc g ≤ 4) (hM : ax_Mp S j p r (gn p) (gn r)) (hZ : mt_at Z 648 (mt_N S gn gc r)) (hw : (ax_wlf S 639 j p (gn p) (gn r) (gc p) 0 Z).1 = true)
    (g3 : mt_lat L2 511 (gx_N (gn r) (gn p) (mx_H S gn gc j p r))) (g4 : mt_lat L2 484 (mt_N S gn gc p)) (x2 : mt_at X 644 (mt_N S gn gc p)) (x4 : mt_at X 645 (gx_N (gn r) (gn p) (mx_H S gn gc j p r))) :
    ∃ Q, ax_B1 639 645 644 (gn p) gr_F X = some Q ∧ (∀ q, q ≠ 650 → q ≠ 651 → q ≠ 652 → Q q = X q) ∧ (∀ q, (q < 519 ∨ 537 < q) → q ≠ 616 → ax_frL0 L2 483 616 (gn p) q = L2 q) ∧
      ax_cn (ax_frL0 L2 483 616 (gn p) 616) (ax_rkc 511 L2 (gn p)) = ax_ow (Q 652) (ax_rk (X 645) (gn p)) ∧ ∀ k, (if ax_cn (ax_frL0 L2 483 616 (gn p) 616) (ax_rkc 511 L2 (gn p)) ≤ k then (-3 : Int32) else (ax_owc (ax_frL0 L2 483 616 (gn p) 616) (ax_rkc 511 L2 (gn p)) k).toInt32) = ax_or (Q 652) k (ax_rk (X 645) (gn p)) 0 0 := by
  obtain ⟨m1, m2, m3, -⟩ := id hM
  have hn := (hsn p m2).2
  have hm := (hsn r m3).2
  obtain ⟨⟨hH, s1, s2⟩, -, hQ⟩ := mx_Hf hW hWm hsn hsc hM
  obtain ⟨-, hBp, -, -⟩ := mx_own hW hsn hsc m2
  obtain ⟨-, hBr, -, -⟩ := mx_own hW hsn hsc m3
  obtain ⟨go, -⟩ := gy_own hW hsn hsc m3
  obtain ⟨hBN, -, -, -, hNl⟩ := rb_N (t := mx_t S j) hm hn hBr go (mx_t.b hWm hM) hH s1 s2 hQ
  have hsp := rl_ker hW hWm hsn hsc hM hZ hw
  have hV : ∀ a b, a < gn p → b < gn p → (mt_N S gn gc p a b).natAbs ≤ 4374 := fun a b _ _ => cj_own hW hsn hsc m2 a b
  have hNo : ∀ k j', mt_ok (gx_N (gn r) (gn p) (mx_H S gn gc j p r) k j') := fun k j' => by
    unfold gx_N
    split
    · rename_i c; exact gz_fit hW hWm hsn hsc hM _ _ (by omega) (by omega)
    · exact mt_ok0
  obtain ⟨s, c1, c2, c3, c4⟩ := cj_cls (L := L2) (a := 483) (x := 616) (by omega) hn g3 g4 hBN hBp hsp hV hNo hNl
  obtain ⟨Q, s', q1, q2, q3, q4, q5, q6, q7⟩ := cj_ref (a := 645) (b := 644) (L := X) (by omega) (by omega) hn hBN hsp hV hNl (fun k j' hk hj => x4 k j' (by omega) hj) (fun k j' hk hj => x2 k j' (by omega) hj)
  have e := c2.uniq q4 (gr_D.refl _)
  have hr3 : cg_rk (gx_N (gn r) (gn p) (mx_H S gn gc j p r)) (gn p) ≤ 3 := by have := cg_rk_le (gx_N (gn r) (gn p) (mx_H S gn gc j p r)) (gn p); omega
  have c4' : ax_rkc 511 L2 (gn p) = cg_rk (gx_N (gn r) (gn p) (mx_H S gn gc j p r)) (gn p) := c4
  refine ⟨Q, q1, q2, fun q h1 h2 => c3 q (by omega) h2, ?_⟩
  rw [c4', q7]
  exact cj_val hr3 hr3 c1 q3 (fun i hi => by unfold iy_pd; split; rfl; exact e _ (by omega)) q5 q6
theorem rl_d1 {S : Nat → Int32} {gn gc : Nat → Nat} {j p r : Nat} {L2 X : ax_L} (hW : rl_Wg S) (hWm : rl_Wm S) (hsn : ∀ g, g < 6 → S (14 * g) = nI (gn g) ∧ gn g ≤ 3) (hsc : ∀ g, g < 6 → S (14 * g + 1) = nI (gc g) ∧ gc g ≤ 4) (hM : ax_Mp S j p r (gn p) (gn r))
    (g3 : mt_lat L2 511 (gx_N (gn r) (gn p) (mx_H S gn gc j p r))) (x2 : mt_at X 644 (mt_N S gn gc r)) (x3 : mt_at X 646 (gx_R (gn r) (mx_H S gn gc j p r))) :
    ∃ Q, ax_B1 639 646 644 (gn r) gr_F X = some Q ∧ (∀ q, q ≠ 650 → q ≠ 651 → q ≠ 652 → Q q = X q) ∧ (∀ q, q ≠ 616 → ax_frL1 L2 483 616 (gn p) q = L2 q) ∧
      ax_cn (ax_frL1 L2 483 616 (gn p) 616) (gn p) = ax_ow (Q 652) (ax_rk (X 646) (gn r)) ∧ ∀ k, (if ax_cn (ax_frL1 L2 483 616 (gn p) 616) (gn p) ≤ k then (-3 : Int32) else (ax_owc (ax_frL1 L2 483 616 (gn p) 616) (gn p) k).toInt32) = ax_or (Q 652) k (ax_rk (X 646) (gn r)) 0 0 := by
  obtain ⟨m1, m2, m3, -⟩ := id hM
  have hn := (hsn p m2).2
  have hm := (hsn r m3).2
  obtain ⟨⟨hH, s1, s2⟩, -, hQ⟩ := mx_Hf hW hWm hsn hsc hM
  obtain ⟨-, hBr, -, -⟩ := mx_own hW hsn hsc m3
  obtain ⟨go, gl⟩ := gy_own hW hsn hsc m3
  obtain ⟨hBN, hN2, hN01, hN3, hNl⟩ := rb_N (t := mx_t S j) hm hn hBr go (mx_t.b hWm hM) hH s1 s2 hQ
  obtain ⟨hBR, hR1, hR3, hRl⟩ := rb_R (t := mx_t S j) hm hBr go gl (mx_t.b hWm hM) hH s1 s2 hQ
  have hsp : ∀ a, a < gn r → mt_sp (gn r) (gx_R (gn r) (mx_H S gn gc j p r)) (mt_N S gn gc r a) := fun a ha => gz_RO hH.1 (fun k j _ hj => hBr.out k j hj) s2 ha
  have hV : ∀ a b, a < gn r → b < gn r → (mt_N S gn gc r a b).natAbs ≤ 4374 := fun a b _ _ => cj_own hW hsn hsc m3 a b
  have hNb : ∀ k j', (gx_N (gn r) (gn p) (mx_H S gn gc j p r) k j').natAbs ≤ 9000000000000000000 := fun k j' => by
    unfold gx_N
    split
    · rename_i c; exact gz_fit2 hW hWm hsn hsc hM _ _ (by omega) (by omega)
    · exact Nat.zero_le _
  obtain ⟨s, c2, c1, c3⟩ := gr_ofq (L := L2) (x := 616) (b := 511) (v := gn p) (by omega) hn g3 hBN (fun k j' => by have := hNb k j'; unfold mt_ok; omega) (fun k e j' l => by have := hN2 k e j' l; unfold mt_ok; omega) ⟨by unfold mt_ok; omega, by unfold mt_ok; omega⟩
  obtain ⟨Q, s', q1, q2, q3, q4, q5, q6, q7⟩ := cj_ref (a := 646) (b := 644) (L := X) (by omega) (by omega) hm hBR hsp hV hRl (fun k j' hk hj => x3 k j' (by omega) hj) (fun k j' hk hj => x2 k j' (by omega) hj)
  obtain ⟨ch, -⟩ := cj_ch (t := gn p) (wd := gn p) (E := 9000000000000000000) (W := 52396146) hn hn (fun a b h => by
    rcases h with h | h
    · exact hBN.2 a b h
    · exact hBN.out a b h) (by decide) (by decide) hNb hN2 (fun a b c d e f => by have := rb_3 hn hBN a b c d e f; omega) c2
  have e := cj_one hm hn hBr hH s1 s2 c2 q4 ch q5
  have hr3 : cg_rk (gx_R (gn r) (mx_H S gn gc j p r)) (gn r) ≤ 3 := by have := cg_rk_le (gx_R (gn r) (mx_H S gn gc j p r)) (gn r); omega
  refine ⟨Q, q1, q2, c3, ?_⟩
  rw [q7]
  exact cj_val hn hr3 c1 q3 e q5 q6
