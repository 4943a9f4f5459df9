/-! ===== what a map makes, in both ===== -/
/-- the table of map k -/
def mx_t (S : Nat → Int32) (k : Nat) : Nat → Nat → Int := fun i j => if i < 3 ∧ j < 3 then (S (84 + 11 * k + 2 + 3 * i + j)).toInt else 0
/-- rows that lead of all pairs of a row that is one with an image, and the element -/
noncomputable def mx_H (S : Nat → Int32) (gn gc : Nat → Nat) (k p r : Nat) : Nat → Nat → Int := mt_nt (gn r + gn p) (gn r + gn p) (gx_X (gn r) (gn p) (mt_N S gn gc r) (mx_t S k))
theorem mx_99 {v : Int32} (h : ax_in3 v.toInt64 (-99) 99 = true) : v.toInt.natAbs ≤ 99 := by
  rw [rl_in3, decide_eq_true_eq] at h
  have a1 : (-99 : Int64).toInt = -99 := by decide
  have a2 : (99 : Int64).toInt = 99 := by decide
  omega
theorem mx_t.b {S : Nat → Int32} {k p r x y : Nat} (hW : rl_Wm S) (hM : ax_Mp S k p r x y) (i j : Nat) : (mx_t S k i j).natAbs ≤ 99 := by
  unfold mx_t
  by_cases c : i < 3 ∧ j < 3
  · rw [if_pos c]
    obtain ⟨m1, m2, m3, m4, m5, m6, m7, m8, m9⟩ := hM
    rcases hW k m1 with e | ⟨p', r', x', y', -, h⟩
    · rw [m6] at e; exact absurd e (rl_m1 (by omega))
    · exact mx_99 (h i j c.1 c.2).1
  · rw [if_neg c]; decide
theorem mx_own {S : Nat → Int32} {gn gc : Nat → Nat} {r : Nat} (hW : rl_Wg S) (hsn : ∀ g, g < 6 → S (14 * g) = nI (gn g) ∧ gn g ≤ 3) (hsc : ∀ g, g < 6 → S (14 * g + 1) = nI (gc g) ∧ gc g ≤ 4) (hr : r < 6) : (∀ i j, i < gc r → (mt_rel S r (gn r) i j).natAbs ≤ 9) ∧ cg_B (gn r) (mt_N S gn gc r) ∧ (∀ k, k < gn r → mt_sp (gc r) (mt_rel S r (gn r)) (mt_N S gn gc r k)) ∧ ∀ i, i < gc r → mt_sp (gn r) (mt_N S gn gc r) (mt_rel S r (gn r) i) := by
  obtain ⟨n1, n2⟩ := hsn r hr
  obtain ⟨c1, c2⟩ := hsc r hr
  obtain ⟨n', c', z1, z2, z3, z4, z5⟩ := hW r hr
  have ec : c' = gc r := (nI_eq (by omega) (by omega)).mp (z4.symm.trans c1)
  subst ec
  have hX9 : ∀ i j, i < gc r → (mt_rel S r (gn r) i j).natAbs ≤ 9 := fun i j hi => by
    unfold mt_rel
    split
    · exact mt_9 (z5 i j hi (by omega))
    · exact Nat.zero_le _
  obtain ⟨⟨h1, h2, h3⟩, -⟩ := mt_nt9 (X := mt_rel S r (gn r)) (N := gc r) n2 hX9 (fun i j _ hj => by unfold mt_rel; rw [if_neg (by omega)])
  exact ⟨hX9, ⟨h1, fun k j hk => by unfold mt_N mt_nt; rw [if_neg (by omega)]⟩, h2, h3⟩
theorem mx_kd {S : Nat → Int32} {gn gc : Nat → Nat} {r : Nat} (hW : rl_Wg S) (hsn : ∀ g, g < 6 → S (14 * g) = nI (gn g) ∧ gn g ≤ 3) (hsc : ∀ g, g < 6 → S (14 * g + 1) = nI (gc g) ∧ gc g ≤ 4) (hr : r < 6) : ∃ κ lam Λ, gx_kd (gn r) (mt_N S gn gc r) κ lam Λ := by
  obtain ⟨h1, h2, h3, h4⟩ := mx_own hW hsn hsc hr
  exact gx_kind (hsn r hr).2 h1 h2 h3 h4
theorem mx_ok {S : Nat → Int32} {gn gc : Nat → Nat} {r : Nat} (hW : rl_Wg S) (hsn : ∀ g, g < 6 → S (14 * g) = nI (gn g) ∧ gn g ≤ 3) (hsc : ∀ g, g < 6 → S (14 * g + 1) = nI (gc g) ∧ gc g ≤ 4) (hr : r < 6) : ∀ k, k < gn r → mt_ok (mt_N S gn gc r k k) := by
  obtain ⟨Y, y1, y2, y3, y4⟩ := rl_N1 (t := 648) hW hsn hsc hr (by omega) (by omega) (fun _ _ => 0)
  exact fun k hk => (y4 k hk).1
/-- the leads fit -/
theorem mx_lead {m n κ lam Λ : Nat} {O t H : Nat → Nat → Int} (hk : gx_kd m O κ lam Λ) (hn : n ≤ 3) (ht : ∀ i j, (t i j).natAbs ≤ 99) (hH : mt_hn (m + n) H) (s1 : ∀ k, k < m + n → mt_sp (m + n) (gx_X m n O t) (H k)) (s2 : ∀ r, r < m + n → mt_sp (m + n) H (gx_X m n O t r)) {q : Nat} (hq : q < m + n) : (H q q).natAbs ≤ 26198073 :=
  Nat.le_trans (gd_T.lead hH.ec hH.2.1 hq) (Nat.le_trans (hk.2.1 n hn t H ht hH.ec hH.2.1 s1 s2) hk.2.2.2.1)
theorem gx_R.hn {m n : Nat} {H : Nat → Nat → Int} (h : mt_hn (m + n) H) : mt_hn m (gx_R m H) := by
  refine ⟨fun k j hk hj => ?_, fun k hk => ?_, fun k hk h0 j => ?_, fun k q h1 h2 h3 => ?_, fun k j hk hj => if_neg (by omega)⟩
  · unfold gx_R; rw [if_pos (by omega)]; exact h.1 k j (by omega) hj
  · unfold gx_R; rw [if_pos (by omega)]; exact h.2.1 k (by omega)
  · unfold gx_R at h0 ⊢
    rw [if_pos (by omega)] at h0
    split
    · exact h.2.2.1 k (by omega) h0 j
    · rfl
  · unfold gx_R at h3 ⊢
    rw [if_pos (by omega)] at h3
    rw [if_pos (by omega), if_pos (by omega)]; exact h.2.2.2.1 k q h1 (by omega) h3
theorem gx_N.hn {m n : Nat} {H : Nat → Nat → Int} (h : mt_hn (m + n) H) : mt_hn n (gx_N m n H) := by
  refine ⟨fun k j hk hj => ?_, fun k hk => ?_, fun k hk h0 j => ?_, fun k q h1 h2 h3 => ?_, fun k j hk hj => if_neg (by omega)⟩
  · unfold gx_N; rw [if_pos (by omega)]; exact h.1 (m + k) (m + j) (by omega) (by omega)
  · unfold gx_N; rw [if_pos (by omega)]; exact h.2.1 (m + k) (by omega)
  · unfold gx_N at h0 ⊢
    rw [if_pos (by omega)] at h0
    split
    · exact h.2.2.1 (m + k) (by omega) h0 (m + j)
    · rfl
  · unfold gx_N at h3 ⊢
    rw [if_pos (by omega)] at h3
    rw [if_pos (by omega), if_pos (by omega)]; exact h.2.2.2.1 (m + k) (m + q) (by omega) (by omega) h3
set_option maxRecDepth 20000 in
/-- the reference -/
theorem rl_M1 {S : Nat → Int32} {gn gc : Nat → Nat} {k p r x y : Nat} (hW : rl_Wg S) (hWm : rl_Wm S) (hsn : ∀ g, g < 6 → S (14 * g) = nI (gn g) ∧ gn g ≤ 3) (hsc : ∀ g, g < 6 → S (14 * g + 1) = nI (gc g) ∧ gc g ≤ 4) (hM : ax_Mp S k p r x y) (L : ax_L) :
    ∃ Y, ax_M1 639 k r (gn p) (gn r) (gc r) 9223372036854775808 S L = some Y ∧ (mt_at Y 647 (mx_H S gn gc k p r) ∧ mt_at Y 646 (gx_R (gn r) (mx_H S gn gc k p r)) ∧ mt_at Y 645 (gx_N (gn r) (gn p) (mx_H S gn gc k p r))) ∧ (∀ q, q ≠ 643 → q ≠ 645 → q ≠ 646 → q ≠ 647 → q ≠ 648 → q ≠ 649 → Y q = L q) ∧
      (mt_hn (gn r + gn p) (mx_H S gn gc k p r) ∧ (∀ q, q < gn r + gn p → mt_sp (gn r + gn p) (gx_X (gn r) (gn p) (mt_N S gn gc r) (mx_t S k)) (mx_H S gn gc k p r q)) ∧ ∀ q, q < gn r + gn p → mt_sp (gn r + gn p) (mx_H S gn gc k p r) (gx_X (gn r) (gn p) (mt_N S gn gc r) (mx_t S k) q)) ∧ ∀ q, q < gn r + gn p → (mx_H S gn gc k p r q q).natAbs ≤ 26198073 := by
  obtain ⟨m1, m2, m3, m4, m5, m6, m7, m8, m9⟩ := id hM
  have hn := (hsn p m2).2
  have hm := (hsn r m3).2
  obtain ⟨κ, lam, Λ, hkd⟩ := mx_kd hW hsn hsc m3
  obtain ⟨o0, ⟨o1, o3⟩, o4, o5⟩ := mx_own hW hsn hsc m3
  have ht := mx_t.b hWm hM
  obtain ⟨N, y1, y2, y3, y4⟩ := rl_N1 (t := 648) hW hsn hsc m3 (by omega) (by omega) L
  obtain ⟨a1, a2⟩ := gm_al (h := 643) (t := 648) (wd := gn r) (L := N) (by omega) (by omega) (gn r)
  obtain ⟨b1, b2, b3⟩ := gm_mh (S := S) (m := 639) (f := k) (x := gn p) (y := gn r) (L := ax_al 643 648 (gn r) (gn r) N) (by omega) (gn p)
  have heap : ∀ i j, i < gn r + gn p → j < 6 → ax_t0 647 36 (ax_mh S 639 k (gn p) (gn r) (gn p) (ax_al 643 648 (gn r) (gn r) N)) 643 (6 * i + j) = Int64.ofInt (gx_X (gn r) (gn p) (mt_N S gn gc r) (mx_t S k) i j) := fun i j hi hj => by
    rw [mt_t0, if_neg (by omega)]
    by_cases c : i < gn r
    · rw [gx_X.o c]
      show ax_mh S 639 k (gn p) (gn r) (gn p) (ax_al 643 648 (gn r) (gn r) N) (639 + 4) (6 * i + j) = _
      rw [b2 _ (by omega)]
      show ax_al 643 648 (gn r) (gn r) N 643 (6 * i + j) = _
      rw [a2 i j c hj]
      by_cases d : j < gn r
      · rw [if_pos d]; exact y2 i j (by omega) hj
      · rw [if_neg d, o1.2.2.2.2 i j c (by omega)]; rfl
    · have e := b3 (i - gn r) j (by omega) hj
      rw [show gn r + (i - gn r) = i by omega] at e
      show ax_mh S 639 k (gn p) (gn r) (gn p) (ax_al 643 648 (gn r) (gn r) N) (639 + 4) (6 * i + j) = _
      rw [e]
      unfold gx_X
      rw [if_neg c, if_pos hi]
      by_cases d : j < gn r + gn p
      · rw [if_pos d]
        by_cases d2 : j < gn r
        · rw [if_pos d2, if_pos d2]
          unfold mx_t
          rw [if_pos (by omega)]
          exact (Int64.ofInt_int32ToInt _).symm
        · rw [if_neg d2, if_neg d2]
          by_cases d3 : j = i
          · rw [if_pos (by omega), if_pos d3]; rfl
          · rw [if_neg (by omega), if_neg d3]; rfl
      · rw [if_neg d, if_neg (by omega), if_neg (by omega)]; rfl
  obtain ⟨f1, L1, w1, w2, w3, w4⟩ := gx_wide (h := 643) (t := 647) (fu := 9223372036854775808) (L0 := ax_t0 647 36 (ax_mh S 639 k (gn p) (gn r) (gn p) (ax_al 643 648 (gn r) (gn r) N))) (m := gn r) (n := gn p) (N := gc r) (X := mt_rel S r (gn r)) (O := mt_N S gn gc r) (tt := mx_t S k) hm o0 ⟨o1, o3⟩ o4 o5 hn ht (by omega) heap (fun z hz => by rw [mt_t0, if_pos ⟨rfl, hz⟩]) (Nat.le_refl _)
  have hlead : ∀ q, q < gn r + gn p → (mx_H S gn gc k p r q q).natAbs ≤ 26198073 := fun q hq => mx_lead hkd hn ht w2.1 w2.2.1 w2.2.2 hq
  have hR : mt_hn (gn r) (gx_R (gn r) (mx_H S gn gc k p r)) := gx_R.hn w2.1
  have hHz : ∀ q j, gn r + gn p ≤ q → mx_H S gn gc k p r q j = 0 := fun q j hq => by unfold mx_H mt_nt; rw [if_neg (by omega)]
  -- what is reached is worked again
  obtain ⟨c1, c2, c3⟩ := gm_mk (m := 639) (x := gn p) (y := gn r) (L := ax_bk 647 (gn r + gn p) (gn r + gn p) L1) 36
  generalize hM1 : ax_mk 639 (gn p) (gn r) 36 (ax_bk 647 (gn r + gn p) (gn r + gn p) L1) = M at c1 c2 c3
  have cR : mt_at M 646 (gx_R (gn r) (mx_H S gn gc k p r)) := fun i j hi hj => by
    have := c2 (6 * i + j) (by omega)
    rw [show (6 * i + j) / 6 = i by omega, show (6 * i + j) % 6 = j by omega] at this
    refine Eq.trans this ?_
    unfold gx_R
    by_cases c : i < gn r ∧ j < gn r
    · rw [if_pos c, if_pos c]; exact w3 i j hi hj
    · rw [if_neg c, if_neg c]; rfl
  have cN : mt_at M 645 (gx_N (gn r) (gn p) (mx_H S gn gc k p r)) := fun i j hi hj => by
    have := c3 (6 * i + j) (by omega)
    rw [show (6 * i + j) / 6 = i by omega, show (6 * i + j) % 6 = j by omega] at this
    refine Eq.trans this ?_
    unfold gx_N
    by_cases c : i < gn p ∧ j < gn p
    · rw [if_pos c, if_pos c, show 6 * (gn r + i) + gn r + j = 6 * (gn r + i) + (gn r + j) by omega]; exact w3 (gn r + i) (gn r + j) (by omega) (by omega)
    · rw [if_neg c, if_neg c]; rfl
  have cH : mt_at M 647 (mx_H S gn gc k p r) := fun i j hi hj => by
    rw [c1 647 (by omega) (by omega)]; exact w3 i j hi hj
  obtain ⟨d1, d2⟩ := gm_al (h := 643) (t := 646) (wd := gn r) (L := M) (by omega) (by omega) (gn r)
  obtain ⟨f2, L2, v1, v2, v3⟩ := mt_id (w := gn r) (h := 643) (t := 646) (fu := 9223372036854775808) (L0 := ax_t0 646 36 (ax_al 643 646 (gn r) (gn r) M)) (by omega) (by omega) hR (fun q hq => by
    have := hlead q (by omega)
    unfold gx_R mt_ok
    rw [if_pos (by omega)]; omega) (fun i j hi hj => by
    rw [mt_t0, if_neg (by omega), d2 i j hi hj]
    by_cases c : j < gn r
    · rw [if_pos c]; exact cR i j (by omega) hj
    · rw [if_neg c]
      unfold gx_R
      rw [if_neg (by omega)]; rfl) (fun z hz => by rw [mt_t0, if_pos ⟨rfl, hz⟩]) (Nat.le_refl _)
  have fr : ∀ q, q ≠ 643 → q ≠ 646 → ax_bk 646 (gn r) (gn r) L2 q = M q := fun q h1 h2 => by
    rw [v3 q h1 h2]
    funext z
    rw [mt_t0, if_neg (fun y => h2 y.1)]
    exact congrFun (d1 q h1) z
  refine ⟨ax_bk 646 (gn r) (gn r) L2, ?_, ⟨fun i j hi hj => ?_, fun i j hi hj => ?_, fun i j hi hj => ?_⟩, fun q h1 h2 h3 h4 h5 h6 => ?_, w2, hlead⟩
  · show (ax_N1 639 r 648 (gn r) (gc r) 9223372036854775808 S L).bind _ = _
    rw [y1]
    show (ax_wk 643 647 (gn r + gn p) 9223372036854775808 (gn r + gn p) (ax_t0 647 36 (ax_mh S 639 k (gn p) (gn r) (gn p) (ax_al 643 648 (gn r) (gn r) N)))).bind _ = _
    rw [w1]
    show ax_A1 639 (gn r) 9223372036854775808 (ax_mk 639 (gn p) (gn r) 36 (ax_bk 647 (gn r + gn p) (gn r + gn p) L1)) = _
    rw [hM1]
    show (ax_wk 643 646 (gn r) 9223372036854775808 (gn r) (ax_t0 646 36 (ax_al 643 646 (gn r) (gn r) M))).map _ = _
    rw [v1]; rfl
  · rw [fr 647 (by omega) (by omega)]; exact cH i j hi hj
  · rw [v2 i j hi hj]
    congr 1
    by_cases c : i < gn r
    · rw [if_pos c]
    · rw [if_neg c]; unfold gx_R; rw [if_neg (by omega)]
  · rw [fr 645 (by omega) (by omega)]; exact cN i j hi hj
  · rw [fr q h1 h3]
    refine (c1 q (by omega) (by omega)).trans ((w4 q h1 h4).trans ?_)
    funext z
    rw [mt_t0, if_neg (fun y => h4 y.1)]
    refine (congrFun (b1 q (by omega) (by omega)) z).trans ?_
    rw [a1 q h1, y3 q h1 h5 h6]
theorem rl_A1m {m wd fu k : Nat} {L Y : ax_L} (h : ax_A1 m wd fu L = some Y) : ax_A1 m wd (fu + k) L = some Y := by
  obtain ⟨q, hq, e⟩ := Option.map_eq_some_iff.mp h
  exact Option.map_eq_some_iff.mpr ⟨q, rl_wkm _ _ hq, e⟩
theorem rl_M1m {m f r x y cr fu k : Nat} {S : Nat → Int32} {L Y : ax_L} (h : ax_M1 m f r x y cr fu S L = some Y) : ax_M1 m f r x y cr (fu + k) S L = some Y := by
  obtain ⟨z, hz, e2⟩ := Option.bind_eq_some_iff.mp h
  obtain ⟨q, hq, e3⟩ := Option.bind_eq_some_iff.mp e2
  exact Option.bind_eq_some_iff.mpr ⟨z, rl_N1m hz, Option.bind_eq_some_iff.mpr ⟨q, rl_wkm _ _ hq, rl_A1m e3⟩⟩
theorem rl_M1u {m f r x y cr fu fv : Nat} {S : Nat → Int32} {L Y Z : ax_L} (h : ax_M1 m f r x y cr fu S L = some Y) (h2 : ax_M1 m f r x y cr fv S L = some Z) : Y = Z := by
  have h1 := rl_M1m (k := fv) h
  have h3 := rl_M1m (k := fu) h2
  rw [show fv + fu = fu + fv by omega] at h3
  exact Option.some.inj (h1.symm.trans h3)
/-- the total function -/
theorem rl_M1t {S : Nat → Int32} {gn gc : Nat → Nat} {k p r x y : Nat} (hW : rl_Wg S) (hWm : rl_Wm S) (hsn : ∀ g, g < 6 → S (14 * g) = nI (gn g) ∧ gn g ≤ 3) (hsc : ∀ g, g < 6 → S (14 * g + 1) = nI (gc g) ∧ gc g ≤ 4) (hM : ax_Mp S k p r x y) :
    ax_M1k 639 k r (gn p) (gn r) (gc r) S ∧ ∀ L, (mt_at (ax_M1t 639 k r (gn p) (gn r) (gc r) S L) 647 (mx_H S gn gc k p r) ∧ mt_at (ax_M1t 639 k r (gn p) (gn r) (gc r) S L) 646 (gx_R (gn r) (mx_H S gn gc k p r)) ∧ mt_at (ax_M1t 639 k r (gn p) (gn r) (gc r) S L) 645 (gx_N (gn r) (gn p) (mx_H S gn gc k p r))) ∧ (∀ q, q ≠ 643 → q ≠ 645 → q ≠ 646 → q ≠ 647 → q ≠ 648 → q ≠ 649 → ax_M1t 639 k r (gn p) (gn r) (gc r) S L q = L q) := by
  have hk : ax_M1k 639 k r (gn p) (gn r) (gc r) S := fun L => by
    obtain ⟨Y, y1, -⟩ := rl_M1 hW hWm hsn hsc hM L
    exact ⟨Y, _, y1⟩
  refine ⟨hk, fun L => ?_⟩
  obtain ⟨Y, y1, y2, y3, -, -⟩ := rl_M1 hW hWm hsn hsc hM L
  obtain ⟨fu, h⟩ := ax_M1t_spec hk L
  rw [rl_M1u h y1]
  exact ⟨y2, y3⟩
/-- the class -/
theorem rl_wo {I : ax_I} {L : ax_L} {S : Nat → Int32} {gn gc : Nat → Nat} {a k p r x y : Nat} (hW : rl_Wg S) (hWm : rl_Wm S) (hsn : ∀ g, g < 6 → S (14 * g) = nI (gn g) ∧ gn g ≤ 3) (hsc : ∀ g, g < 6 → S (14 * g + 1) = nI (gc g) ∧ gc g ≤ 4) (hM : ax_Mp S k p r x y) (ha : 7 < a) (ht : ∀ i, i < 9 → I 7 (9 * k + i) = S (84 + 11 * k + 2 + i)) (hL : mt_lat L (a + 10) (mt_N S gn gc r)) :
    (mt_lat (ax_woL I L a 1 k (gn p) (gn r)) (a + 37) (mx_H S gn gc k p r) ∧ mt_lat (ax_woL I L a 1 k (gn p) (gn r)) (a + 19) (gx_R (gn r) (mx_H S gn gc k p r)) ∧ mt_lat (ax_woL I L a 1 k (gn p) (gn r)) (a + 28) (gx_N (gn r) (gn p) (mx_H S gn gc k p r))) ∧ ∀ q, (q < a + 21 ∨ (a + 45 < q ∧ q ≠ a + 55)) → ax_woL I L a 1 k (gn p) (gn r) q = L q := by
  obtain ⟨m1, m2, m3, m4, m5, m6, m7, m8, m9⟩ := id hM
  obtain ⟨κ, lam, Λ, hkd⟩ := mx_kd hW hsn hsc m3
  obtain ⟨o0, ⟨o1, o3⟩, o4, o5⟩ := mx_own hW hsn hsc m3
  have hm := (hsn r m3).2
  have hn := (hsn p m2).2
  obtain ⟨h1, -, h3⟩ := gx_wo (I := I) (L := L) (a := a) (s := 1) (f := k) (t := mx_t S k) hkd o1 (mx_ok hW hsn hsc m3) hn (mx_t.b hWm hM) (by omega) (fun i j hi hj => by
    have e := ht (3 * i + j) (by omega)
    rw [← Nat.add_assoc, ← Nat.add_assoc] at e
    show (I 7 (9 * k + 3 * i + j)).toInt64 = _
    rw [e]
    unfold mx_t
    rw [if_pos (by omega)]
    exact (Int64.ofInt_int32ToInt _).symm) hL
  exact ⟨h1, h3⟩
