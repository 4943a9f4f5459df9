/-! ===== a diagram's other tests ===== -/
/-- the maps of a diagram, in both -/
def gw_M (I : ax_I) (S : Nat → Int32) (mp fr tg gn : Nat → Nat) : Prop := ∀ e, e < 7 → ax_Mp S (mp e) (fr e) (tg e) (gn (fr e)) (gn (tg e)) ∧ (∀ z, z < 9 → I 7 (9 * mp e + z) = S (84 + 11 * mp e + 2 + z)) ∧ ∀ a b, a < 3 → b < 3 → gn (tg e) ≤ b → S (84 + 11 * mp e + 2 + 3 * a + b) = 0
theorem gw_M.T {I : ax_I} {S : Nat → Int32} {mp fr tg gn : Nat → Nat} (h : gw_M I S mp fr tg gn) : gw_T I S mp fr tg gn := fun e he => by
  obtain ⟨⟨-, m2, m3, -⟩, h2, h3⟩ := h e he
  exact ⟨m2, m3, h2, h3⟩
theorem gw_M.far {I J : ax_I} {S : Nat → Int32} {mp fr tg gn : Nat → Nat} (h : gw_M I S mp fr tg gn) (e : J 7 = I 7) : gw_M J S mp fr tg gn := fun k hk => by
  obtain ⟨h1, h2, h3⟩ := h k hk
  exact ⟨h1, fun z hz => by rw [e]; exact h2 z hz, h3⟩
set_option maxRecDepth 20000 in
/-- exact, in both -/
theorem gw_ex {I : ax_I} {L Lr : ax_L} {S : Nat → Int32} {mp fr tg gn gc : Nat → Nat} {i j : Nat} (hSt : rl_St 1 I S) (hT : gw_M I S mp fr tg gn) (hsn : ∀ g, g < 6 → S (14 * g) = nI (gn g) ∧ gn g ≤ 3) (hsc : ∀ g, g < 6 → S (14 * g + 1) = nI (gc g) ∧ gc g ≤ 4) (hi : i < 7) (hj : j < 7) (e1 : tg i = fr j) :
    ax_rxv I L 361 1 mp fr tg gn gc i j = ax_exRv Lr 639 (mp i) (fr i) (tg i) (mp j) (fr j) (tg j) gn gc S ∧ (mt_lat (ax_rxL I L 361 1 mp fr tg gn gc i j) 391 (gx_N (gn (tg i)) (gn (fr i)) (mx_H S gn gc (mp i) (fr i) (tg i))) ∧ mt_lat (ax_rxL I L 361 1 mp fr tg gn gc i j) 364 (mt_N S gn gc (fr i)) ∧ mt_lat (ax_rxL I L 361 1 mp fr tg gn gc i j) 439 (gx_R (gn (tg j)) (mx_H S gn gc (mp j) (fr j) (tg j)))) ∧
    (∀ q, (q < 366 ∨ 476 < q) → ax_rxL I L 361 1 mp fr tg gn gc i j q = L q) ∧ (∀ q, (q < 364 ∨ 457 < q) → ax_rxI I 361 fr tg gn i j q = I q) ∧
    (∀ q, q ≠ 643 → q ≠ 645 → q ≠ 646 → q ≠ 647 → q ≠ 648 → q ≠ 649 → q ≠ 656 → ax_exRL Lr 639 (mp i) (fr i) (tg i) (mp j) (fr j) (tg j) gn gc S q = Lr q) := by
  obtain ⟨hM, t1, -⟩ := hT i hi
  obtain ⟨hM', t2, -⟩ := hT j hj
  have hW := hSt.2.1
  have hWm := hSt.2.2.1
  obtain ⟨⟨a1, a2, a3⟩, ⟨a4, a5⟩, a6, a7⟩ := mx_go (aa := 363) (by omega) (L := L) hSt hsn hsc hM t1
  have eV : ax_rxv I L 361 1 mp fr tg gn gc i j = ax_ias (ax_rxL I L 361 1 mp fr tg gn gc i j) 382 (gn (tg i)) 448 (gn (fr j)) := rfl
  have eL : ax_rxL I L 361 1 mp fr tg gn gc i j = ax_woL (ax_ldI (ax_woI (ax_ldI I 363 (gn (fr i)) (gn (tg i))) 363 (gn (fr i)) (gn (tg i))) 420 (gn (fr j)) (gn (tg j))) (ax_ldL (ax_woI (ax_ldI I 363 (gn (fr i)) (gn (tg i))) 363 (gn (fr i)) (gn (tg i))) (ax_woL (ax_ldI I 363 (gn (fr i)) (gn (tg i))) (ax_ldL I L 363 1 (mp i) (fr i) (tg i) (gn (fr i)) (gc (fr i)) (gn (tg i)) (gc (tg i))) 363 1 (mp i) (gn (fr i)) (gn (tg i))) 420 1 (mp j) (fr j) (tg j) (gn (fr j)) (gc (fr j)) (gn (tg j)) (gc (tg j))) 420 1 (mp j) (gn (fr j)) (gn (tg j)) := rfl
  have eI : ax_rxI I 361 fr tg gn i j = ax_woI (ax_ldI (ax_woI (ax_ldI I 363 (gn (fr i)) (gn (tg i))) 363 (gn (fr i)) (gn (tg i))) 420 (gn (fr j)) (gn (tg j))) 420 (gn (fr j)) (gn (tg j)) := rfl
  have eR : ax_exRL Lr 639 (mp i) (fr i) (tg i) (mp j) (fr j) (tg j) gn gc S = ax_M1t 639 (mp j) (tg j) (gn (fr j)) (gn (tg j)) (gc (tg j)) S (ax_c1 646 656 36 (ax_M1t 639 (mp i) (tg i) (gn (fr i)) (gn (tg i)) (gc (tg i)) S Lr)) := rfl
  have eW : ax_exRv Lr 639 (mp i) (fr i) (tg i) (mp j) (fr j) (tg j) gn gc S = ax_alike (ax_exRL Lr 639 (mp i) (fr i) (tg i) (mp j) (fr j) (tg j) gn gc S) 656 645 36 := rfl
  rw [eV, eW]
  generalize ax_woL (ax_ldI I 363 (gn (fr i)) (gn (tg i))) (ax_ldL I L 363 1 (mp i) (fr i) (tg i) (gn (fr i)) (gc (fr i)) (gn (tg i)) (gc (tg i))) 363 1 (mp i) (gn (fr i)) (gn (tg i)) = L1 at *
  generalize ax_woI (ax_ldI I 363 (gn (fr i)) (gn (tg i))) 363 (gn (fr i)) (gn (tg i)) = I1 at *
  have St1 : rl_St 1 I1 S := hSt.far (fun q hq => a7 q (by omega))
  obtain ⟨⟨b1, b2, b3⟩, -, b6, b7⟩ := mx_go (aa := 420) (by omega) (L := L1) St1 hsn hsc hM' (fun z hz => by rw [a7 7 (by omega)]; exact t2 z hz)
  rw [← eL] at b1 b2 b3 b6
  rw [← eI] at b7
  obtain ⟨-, k1⟩ := rl_M1t hW hWm hsn hsc hM
  obtain ⟨⟨c2, c3, c4⟩, c5⟩ := k1 Lr
  generalize ax_M1t 639 (mp i) (tg i) (gn (fr i)) (gn (tg i)) (gc (tg i)) S Lr = Y at *
  obtain ⟨-, k2⟩ := rl_M1t hW hWm hsn hsc hM'
  obtain ⟨⟨d2, d3, d4⟩, d5⟩ := k2 (ax_c1 646 656 36 Y)
  rw [← eR] at d2 d3 d4 d5
  obtain ⟨hH, -, -⟩ := mx_Hf hW hWm hsn hsc hM
  obtain ⟨hH', -, -⟩ := mx_Hf hW hWm hsn hsc hM'
  have l1 : mt_lat (ax_rxL I L 361 1 mp fr tg gn gc i j) 382 (gx_R (gn (tg i)) (mx_H S gn gc (mp i) (fr i) (tg i))) := fun k' j' h1 h2 => by rw [b6 _ (by omega)]; exact a2 k' j' h1 h2
  refine ⟨?_, ⟨fun k' j' h1 h2 => ?_, fun k' j' h1 h2 => ?_, b2⟩, fun q hq => ?_, fun q hq => ?_, fun q q1 q2 q3 q4 q5 q6 q7 => ?_⟩
  · have en : gn (tg i) = gn (fr j) := by rw [e1]
    have key := mx_al (n := gn (tg i)) (b := 382) (c := 448) (t := 656) (s := 645) (L1 := ax_rxL I L 361 1 mp fr tg gn gc i j) (L2 := ax_exRL Lr 639 (mp i) (fr i) (tg i) (mp j) (fr j) (tg j) gn gc S) (by have := (hsn _ hM.2.2.1).2; omega) l1 b3 (fun k' j' h1 h2 => by
      rw [d5 656 (by omega) (by omega) (by omega) (by omega) (by omega) (by omega), og_c1c (by omega), if_pos ⟨rfl, by omega⟩]; exact c3 k' j' h1 h2) d4 (gx_R.z hH.1) (fun k' j' h9 => gx_N.z hH'.1 k' j' (by rw [← en]; exact h9))
    rw [Bool.eq_iff_iff]
    unfold ax_ias
    rw [decide_eq_true_eq]
    exact ⟨fun h => key.mp h.2, fun h => ⟨en.symm, key.mpr h⟩⟩
  · rw [b6 _ (by omega)]; exact a3 k' j' h1 h2
  · rw [b6 _ (by omega)]; exact a4 k' j' h1 h2
  · rw [b6 q (by omega)]; exact a6 q (by omega)
  · rw [b7 q (by omega)]; exact a7 q (by omega)
  · refine (d5 q q1 q2 q3 q4 q5 q6).trans (Eq.trans (funext fun z => ?_) (c5 q q1 q2 q3 q4 q5 q6))
    rw [og_c1c (by omega), if_neg (by omega)]
/-- onto, in the reference -/
theorem gw_on {L1 Lr : ax_L} {I : ax_I} {S : Nat → Int32} {mp fr tg gn gc : Nat → Nat} {j : Nat} (hSt : rl_St 1 I S) (hT : gw_M I S mp fr tg gn) (hsn : ∀ g, g < 6 → S (14 * g) = nI (gn g) ∧ gn g ≤ 3) (hsc : ∀ g, g < 6 → S (14 * g + 1) = nI (gc g) ∧ gc g ≤ 4) (hj : j < 7) (h1 : mt_lat L1 439 (gx_R (gn (tg j)) (mx_H S gn gc (mp j) (fr j) (tg j)))) :
    decide (ax_ixp 439 L1 (gn (tg j)) = 1) = ax_on (ax_M1t 639 (mp j) (tg j) (gn (fr j)) (gn (tg j)) (gc (tg j)) S Lr 646) (gn (tg j)) ∧ ∀ q, q ≠ 643 → q ≠ 645 → q ≠ 646 → q ≠ 647 → q ≠ 648 → q ≠ 649 → ax_M1t 639 (mp j) (tg j) (gn (fr j)) (gn (tg j)) (gc (tg j)) S Lr q = Lr q := by
  obtain ⟨hM, t1, -⟩ := hT j hj
  obtain ⟨-, k1⟩ := rl_M1t hSt.2.1 hSt.2.2.1 hsn hsc hM
  obtain ⟨⟨c2, c3, c4⟩, c5⟩ := k1 Lr
  obtain ⟨hH, -, hP⟩ := mx_Hf hSt.2.1 hSt.2.2.1 hsn hsc hM
  exact ⟨mx_on (a := 439) (t := 646) (hsn _ hM.2.2.1).2 hH.1 hP h1 c3, c5⟩
/-- one to one, in the reference -/
theorem gw_oto {L1 Lr : ax_L} {I : ax_I} {S : Nat → Int32} {mp fr tg gn gc : Nat → Nat} {j : Nat} (hSt : rl_St 1 I S) (hT : gw_M I S mp fr tg gn) (hsn : ∀ g, g < 6 → S (14 * g) = nI (gn g) ∧ gn g ≤ 3) (hsc : ∀ g, g < 6 → S (14 * g + 1) = nI (gc g) ∧ gc g ≤ 4) (hj : j < 7) (h1 : mt_lat L1 391 (gx_N (gn (tg j)) (gn (fr j)) (mx_H S gn gc (mp j) (fr j) (tg j)))) (h2 : mt_lat L1 364 (mt_N S gn gc (fr j))) :
    ax_oto L1 363 (gn (fr j)) (gn (fr j)) = ax_alike (ax_N1t 639 (fr j) 644 (gn (fr j)) (gc (fr j)) S (ax_M1t 639 (mp j) (tg j) (gn (fr j)) (gn (tg j)) (gc (tg j)) S Lr)) 645 644 36 ∧ ∀ q, q ≠ 643 → q ≠ 644 → q ≠ 645 → q ≠ 646 → q ≠ 647 → q ≠ 648 → q ≠ 649 → ax_N1t 639 (fr j) 644 (gn (fr j)) (gc (fr j)) S (ax_M1t 639 (mp j) (tg j) (gn (fr j)) (gn (tg j)) (gc (tg j)) S Lr) q = Lr q := by
  obtain ⟨hM, t1, -⟩ := hT j hj
  obtain ⟨-, k1⟩ := rl_M1t hSt.2.1 hSt.2.2.1 hsn hsc hM
  obtain ⟨⟨c2, c3, c4⟩, c5⟩ := k1 Lr
  obtain ⟨hH, -, hP⟩ := mx_Hf hSt.2.1 hSt.2.2.1 hsn hsc hM
  obtain ⟨-, k2⟩ := rl_N1t (t := 644) hSt.2.1 hsn hsc hM.2.1 (by omega) (by omega)
  obtain ⟨v2, v3, v4⟩ := k2 (ax_M1t 639 (mp j) (tg j) (gn (fr j)) (gn (tg j)) (gc (tg j)) S Lr)
  refine ⟨?_, fun q q1 q2 q3 q4 q5 q6 q7 => (v3 q q1 q2 q7).trans (c5 q q1 q3 q4 q5 q6 q7)⟩
  have key := mx_al (n := gn (fr j)) (b := 363 + 28) (c := 363 + 1) (t := 645) (s := 644) (L1 := L1) (L2 := ax_N1t 639 (fr j) 644 (gn (fr j)) (gc (fr j)) S (ax_M1t 639 (mp j) (tg j) (gn (fr j)) (gn (tg j)) (gc (tg j)) S Lr)) (by have := (hsn _ hM.2.1).2; omega) h1 h2 (fun k' j' h3 h4 => by rw [v3 645 (by omega) (by omega) (by omega)]; exact c4 k' j' h3 h4) v2 (gx_N.z hH.1) (mx_Nz hSt.2.1 hsn hsc hM.2.1)
  rw [Bool.eq_iff_iff]
  unfold ax_oto
  rw [decide_eq_true_eq]
  exact ⟨fun h => key.mp h.2, fun h => ⟨rfl, key.mpr h⟩⟩
