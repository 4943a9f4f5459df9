/-! ===== is a diagram right: the reference ===== -/
set_option maxRecDepth 20000 in
theorem gw_ref {I Ir : ax_I} {Lr : ax_L} {S : Nat → Int32} {mp fr tg gn gc : Nat → Nat} (hSt : rl_St 1 I S) (hT : gw_M I S mp fr tg gn) (hsn : ∀ g, g < 6 → S (14 * g) = nI (gn g) ∧ gn g ≤ 3) (hsc : ∀ g, g < 6 → S (14 * g + 1) = nI (gc g) ∧ gc g ≤ 4) (hE : gw_E fr tg) :
    ax_irRv Ir Lr 639 mp fr tg gn gc S = (gw_alr (gw_w mp fr tg gn gc S) 7 && gw_V mp fr tg gn gc S) ∧ (∀ q, q ≠ 643 → q ≠ 644 → q ≠ 645 → q ≠ 646 → q ≠ 647 → q ≠ 648 → q ≠ 649 → q ≠ 650 → q ≠ 656 → q ≠ 664 → q ≠ 665 → q ≠ 666 → ax_irRL Ir Lr 639 mp fr tg gn gc S q = Lr q) ∧ ∀ z, z ≠ 6 → ax_irRI Ir Lr 639 mp fr tg gn gc S 639 z = Ir 639 z := by
  obtain ⟨e1, e2, e3, e4, e5, e6, e7, e8⟩ := hE
  obtain ⟨w1, w2, w3⟩ := gw_wlk (Ir := Ir) (Lr := Lr) hSt hT hsn hsc 7 (by omega)
  have EX01 := fun Lr => gw_ex (L := (fun _ _ => 0)) (Lr := Lr) hSt hT hsn hsc (i := 0) (j := 1) (by omega) (by omega) e1
  have EX23 := fun Lr => gw_ex (L := (fun _ _ => 0)) (Lr := Lr) hSt hT hsn hsc (i := 2) (j := 3) (by omega) (by omega) e3
  have ON := fun Lr => gw_on (Lr := Lr) hSt hT hsn hsc (j := 1) (by omega) (EX01 (fun _ _ => 0)).2.1.2.2
  have OT := fun Lr => gw_oto (Lr := Lr) hSt hT hsn hsc (j := 2) (by omega) (EX23 (fun _ _ => 0)).2.1.1 (EX23 (fun _ _ => 0)).2.1.2.1
  have W1 := fun Ir Lr => gw_both (L := (fun _ _ => 0)) (Lr := Lr) (Ir := Ir) (i := 0) (j := 5) (p := 4) (q := 2) hSt hT.T hsn hsc (by omega) (by omega) (by omega) (by omega) e2 e6 e5 e4.symm
  have W2 := fun Ir Lr => gw_both (L := (fun _ _ => 0)) (Lr := Lr) (Ir := Ir) (i := 5) (j := 3) (p := 1) (q := 6) hSt hT.T hsn hsc (by omega) (by omega) (by omega) (by omega) (e4.symm.trans e3) e7 (e2.symm.trans e1) e8.symm
  rw [gw_irRv, gw_irRL, gw_irRI]
  have x0 : ∀ q, q ≠ 643 → q ≠ 644 → q ≠ 645 → q ≠ 646 → q ≠ 647 → q ≠ 648 → q ≠ 649 → q ≠ 650 → q ≠ 656 → q ≠ 664 → q ≠ 665 → q ≠ 666 → (ax_wlk 639 mp fr tg gn gc S 7 (Ir, Lr, true)).2.1 q = Lr q := fun q q1 q2 q3 q4 q5 q6 q7 q8 q9 qa qb qc => w2 q q1 q6 q7 q8
  have y0 : ∀ z, z ≠ 6 → (ax_wlk 639 mp fr tg gn gc S 7 (Ir, Lr, true)).1 639 z = Ir 639 z := w3
  rw [w1]
  generalize (ax_wlk 639 mp fr tg gn gc S 7 (Ir, Lr, true)).2.1 = M0 at *
  generalize (ax_wlk 639 mp fr tg gn gc S 7 (Ir, Lr, true)).1 = J0 at *
  clear w1 w2 w3
  rw [show (ax_exRv M0 639 (mp 0) (fr 0) (tg 0) (mp 1) (fr 1) (tg 1) gn gc S) = (ax_exRv (fun _ _ => 0) 639 (mp 0) (fr 0) (tg 0) (mp 1) (fr 1) (tg 1) gn gc S) from (EX01 M0).1.symm.trans (EX01 (fun _ _ => 0)).1]
  have x1 : ∀ q, q ≠ 643 → q ≠ 644 → q ≠ 645 → q ≠ 646 → q ≠ 647 → q ≠ 648 → q ≠ 649 → q ≠ 650 → q ≠ 656 → q ≠ 664 → q ≠ 665 → q ≠ 666 → (ax_exRL M0 639 (mp 0) (fr 0) (tg 0) (mp 1) (fr 1) (tg 1) gn gc S) q = Lr q := fun q q1 q2 q3 q4 q5 q6 q7 q8 q9 qa qb qc => ((EX01 M0).2.2.2.2 q q1 q3 q4 q5 q6 q7 q9).trans (x0 q q1 q2 q3 q4 q5 q6 q7 q8 q9 qa qb qc)
  have y1 : ∀ z, z ≠ 6 → (ax_exRI J0 639 (tg 0) (tg 1) gn) 639 z = Ir 639 z := fun z hz => by
    show ax_u (ax_u J0 639 6 _) 639 6 _ 639 z = _
    rw [ax_u_nj hz, ax_u_nj hz]; exact y0 z hz
  generalize (ax_exRL M0 639 (mp 0) (fr 0) (tg 0) (mp 1) (fr 1) (tg 1) gn gc S) = M1 at *
  generalize (ax_exRI J0 639 (tg 0) (tg 1) gn) = J1 at *
  rw [show (ax_exRv M1 639 (mp 2) (fr 2) (tg 2) (mp 3) (fr 3) (tg 3) gn gc S) = (ax_exRv (fun _ _ => 0) 639 (mp 2) (fr 2) (tg 2) (mp 3) (fr 3) (tg 3) gn gc S) from (EX23 M1).1.symm.trans (EX23 (fun _ _ => 0)).1]
  have x2 : ∀ q, q ≠ 643 → q ≠ 644 → q ≠ 645 → q ≠ 646 → q ≠ 647 → q ≠ 648 → q ≠ 649 → q ≠ 650 → q ≠ 656 → q ≠ 664 → q ≠ 665 → q ≠ 666 → (ax_exRL M1 639 (mp 2) (fr 2) (tg 2) (mp 3) (fr 3) (tg 3) gn gc S) q = Lr q := fun q q1 q2 q3 q4 q5 q6 q7 q8 q9 qa qb qc => ((EX23 M1).2.2.2.2 q q1 q3 q4 q5 q6 q7 q9).trans (x1 q q1 q2 q3 q4 q5 q6 q7 q8 q9 qa qb qc)
  have y2 : ∀ z, z ≠ 6 → (ax_exRI J1 639 (tg 2) (tg 3) gn) 639 z = Ir 639 z := fun z hz => by
    show ax_u (ax_u J1 639 6 _) 639 6 _ 639 z = _
    rw [ax_u_nj hz, ax_u_nj hz]; exact y1 z hz
  generalize (ax_exRL M1 639 (mp 2) (fr 2) (tg 2) (mp 3) (fr 3) (tg 3) gn gc S) = M2 at *
  generalize (ax_exRI J1 639 (tg 2) (tg 3) gn) = J2 at *
  rw [show (ax_on ((ax_M1t 639 (mp 1) (tg 1) (gn (fr 1)) (gn (tg 1)) (gc (tg 1)) S M2) 646) (gn (tg 1))) = (ax_on (ax_M1t 639 (mp 1) (tg 1) (gn (fr 1)) (gn (tg 1)) (gc (tg 1)) S (fun _ _ => 0) 646) (gn (tg 1))) from (ON M2).1.symm.trans (ON (fun _ _ => 0)).1]
  have x3 : ∀ q, q ≠ 643 → q ≠ 644 → q ≠ 645 → q ≠ 646 → q ≠ 647 → q ≠ 648 → q ≠ 649 → q ≠ 650 → q ≠ 656 → q ≠ 664 → q ≠ 665 → q ≠ 666 → (ax_M1t 639 (mp 1) (tg 1) (gn (fr 1)) (gn (tg 1)) (gc (tg 1)) S M2) q = Lr q := fun q q1 q2 q3 q4 q5 q6 q7 q8 q9 qa qb qc => ((ON M2).2 q q1 q3 q4 q5 q6 q7).trans (x2 q q1 q2 q3 q4 q5 q6 q7 q8 q9 qa qb qc)
  generalize (ax_M1t 639 (mp 1) (tg 1) (gn (fr 1)) (gn (tg 1)) (gc (tg 1)) S M2) = M3 at *
  have x4a : ∀ q, q ≠ 643 → q ≠ 644 → q ≠ 645 → q ≠ 646 → q ≠ 647 → q ≠ 648 → q ≠ 649 → q ≠ 650 → q ≠ 656 → q ≠ 664 → q ≠ 665 → q ≠ 666 → (ax_M1t 639 (mp 2) (tg 2) (gn (fr 2)) (gn (tg 2)) (gc (tg 2)) S M3) q = Lr q := fun q q1 q2 q3 q4 q5 q6 q7 q8 q9 qa qb qc => by
    obtain ⟨hM, -, -⟩ := hT 2 (by omega)
    obtain ⟨-, k1⟩ := rl_M1t hSt.2.1 hSt.2.2.1 hsn hsc hM
    exact ((k1 M3).2 q q1 q3 q4 q5 q6 q7).trans (x3 q q1 q2 q3 q4 q5 q6 q7 q8 q9 qa qb qc)
  rw [show (ax_alike (ax_N1t 639 (fr 2) 644 (gn (fr 2)) (gc (fr 2)) S (ax_M1t 639 (mp 2) (tg 2) (gn (fr 2)) (gn (tg 2)) (gc (tg 2)) S M3)) 645 644 36) = (ax_alike (ax_N1t 639 (fr 2) 644 (gn (fr 2)) (gc (fr 2)) S (ax_M1t 639 (mp 2) (tg 2) (gn (fr 2)) (gn (tg 2)) (gc (tg 2)) S (fun _ _ => 0))) 645 644 36) from (OT M3).1.symm.trans (OT (fun _ _ => 0)).1]
  have x4 : ∀ q, q ≠ 643 → q ≠ 644 → q ≠ 645 → q ≠ 646 → q ≠ 647 → q ≠ 648 → q ≠ 649 → q ≠ 650 → q ≠ 656 → q ≠ 664 → q ≠ 665 → q ≠ 666 → (ax_N1t 639 (fr 2) 644 (gn (fr 2)) (gc (fr 2)) S (ax_M1t 639 (mp 2) (tg 2) (gn (fr 2)) (gn (tg 2)) (gc (tg 2)) S M3)) q = Lr q := fun q q1 q2 q3 q4 q5 q6 q7 q8 q9 qa qb qc => ((OT M3).2 q q1 q2 q3 q4 q5 q6 q7).trans (x3 q q1 q2 q3 q4 q5 q6 q7 q8 q9 qa qb qc)
  generalize (ax_M1t 639 (mp 2) (tg 2) (gn (fr 2)) (gn (tg 2)) (gc (tg 2)) S M3) = M4a at *
  generalize (ax_N1t 639 (fr 2) 644 (gn (fr 2)) (gc (fr 2)) S M4a) = M4 at *
  have y3 : ∀ z, z ≠ 6 → ax_u (ax_u J2 639 6 (nI (gn (tg 1)))) 639 6 (nI (gn (tg 2))) 639 z = Ir 639 z := fun z hz => by
    rw [ax_u_nj hz, ax_u_nj hz]; exact y2 z hz
  generalize ax_u (ax_u J2 639 6 (nI (gn (tg 1)))) 639 6 (nI (gn (tg 2))) = J3 at *
  have y4 : ∀ z, z ≠ 6 → ax_u J3 639 6 (nI (gc (fr 2))) 639 z = Ir 639 z := fun z hz => by
    rw [ax_u_nj hz]; exact y3 z hz
  generalize ax_u J3 639 6 (nI (gc (fr 2))) = J4 at *
  rw [show (ax_gaRv J4 M4 639 0 5 4 2 mp fr tg gn gc S) = (ax_gaRv (fun _ _ => 0) (fun _ _ => 0) 639 0 5 4 2 mp fr tg gn gc S) from (W1 J4 M4).1.symm.trans (W1 (fun _ _ => 0) (fun _ _ => 0)).1]
  have x5 : ∀ q, q ≠ 643 → q ≠ 644 → q ≠ 645 → q ≠ 646 → q ≠ 647 → q ≠ 648 → q ≠ 649 → q ≠ 650 → q ≠ 656 → q ≠ 664 → q ≠ 665 → q ≠ 666 → ax_gaRL J4 M4 639 0 5 4 2 mp fr tg gn gc S q = Lr q := fun q q1 q2 q3 q4 q5 q6 q7 q8 q9 qa qb qc => ((W1 J4 M4).2.2.1 q q1 q2 q7 qa qb qc).trans (x4 q q1 q2 q3 q4 q5 q6 q7 q8 q9 qa qb qc)
  have y5 : ∀ z, z ≠ 6 → ax_gaRI J4 M4 639 0 5 4 2 mp fr tg gn gc S 639 z = Ir 639 z := fun z hz => ((W1 J4 M4).2.2.2 z hz).trans (y4 z hz)
  generalize ax_gaRL J4 M4 639 0 5 4 2 mp fr tg gn gc S = M5 at *
  generalize ax_gaRI J4 M4 639 0 5 4 2 mp fr tg gn gc S = J5 at *
  rw [show (ax_gaRv J5 M5 639 5 3 1 6 mp fr tg gn gc S) = (ax_gaRv (fun _ _ => 0) (fun _ _ => 0) 639 5 3 1 6 mp fr tg gn gc S) from (W2 J5 M5).1.symm.trans (W2 (fun _ _ => 0) (fun _ _ => 0)).1]
  have x6 : ∀ q, q ≠ 643 → q ≠ 644 → q ≠ 645 → q ≠ 646 → q ≠ 647 → q ≠ 648 → q ≠ 649 → q ≠ 650 → q ≠ 656 → q ≠ 664 → q ≠ 665 → q ≠ 666 → ax_gaRL J5 M5 639 5 3 1 6 mp fr tg gn gc S q = Lr q := fun q q1 q2 q3 q4 q5 q6 q7 q8 q9 qa qb qc => ((W2 J5 M5).2.2.1 q q1 q2 q7 qa qb qc).trans (x5 q q1 q2 q3 q4 q5 q6 q7 q8 q9 qa qb qc)
  have y6 : ∀ z, z ≠ 6 → ax_gaRI J5 M5 639 5 3 1 6 mp fr tg gn gc S 639 z = Ir 639 z := fun z hz => ((W2 J5 M5).2.2.2 z hz).trans (y5 z hz)
  refine ⟨?_, fun q q1 q2 q3 q4 q5 q6 q7 q8 q9 qa qb qc => ?_, fun z hz => ?_⟩
  · rw [gw_h.v]; rfl
  · exact gw_g.q (P := fun x : ax_L => x q = Lr q) (x0 q q1 q2 q3 q4 q5 q6 q7 q8 q9 qa qb qc) (x1 q q1 q2 q3 q4 q5 q6 q7 q8 q9 qa qb qc) (x2 q q1 q2 q3 q4 q5 q6 q7 q8 q9 qa qb qc) (x4a q q1 q2 q3 q4 q5 q6 q7 q8 q9 qa qb qc) (x4 q q1 q2 q3 q4 q5 q6 q7 q8 q9 qa qb qc) (x5 q q1 q2 q3 q4 q5 q6 q7 q8 q9 qa qb qc) (x6 q q1 q2 q3 q4 q5 q6 q7 q8 q9 qa qb qc)
  · exact gw_g.q (P := fun x : ax_I => x 639 z = Ir 639 z) (y0 z hz) (y1 z hz) (y2 z hz) (y3 z hz) (y4 z hz) (y5 z hz) (y6 z hz)
/-- is a diagram right, in both -/
theorem gw_right {I Ir : ax_I} {L Lr : ax_L} {S : Nat → Int32} {mp fr tg gn gc : Nat → Nat} (hSt : rl_St 1 I S) (hT : gw_M I S mp fr tg gn) (hsn : ∀ g, g < 6 → S (14 * g) = nI (gn g) ∧ gn g ≤ 3) (hsc : ∀ g, g < 6 → S (14 * g + 1) = nI (gc g) ∧ gc g ≤ 4) (hE : gw_E fr tg) :
    ax_irv I L 361 1 mp fr tg gn gc = ax_irRv Ir Lr 639 mp fr tg gn gc S ∧ (∀ q, (q < 366 ∨ 480 < q) → ax_irL I L 361 1 mp fr tg gn gc q = L q) ∧ (∀ q, q ≠ 643 → q ≠ 644 → q ≠ 645 → q ≠ 646 → q ≠ 647 → q ≠ 648 → q ≠ 649 → q ≠ 650 → q ≠ 656 → q ≠ 664 → q ≠ 665 → q ≠ 666 → ax_irRL Ir Lr 639 mp fr tg gn gc S q = Lr q) ∧ ∀ z, z ≠ 6 → ax_irRI Ir Lr 639 mp fr tg gn gc S 639 z = Ir 639 z := by
  obtain ⟨a1, a2⟩ := gw_cls hsn hsc hE 7 0 I L rfl hSt hT
  obtain ⟨b1, b2, b3⟩ := gw_ref (Ir := Ir) (Lr := Lr) hSt hT hsn hsc hE
  refine ⟨?_, a2, b2, b3⟩
  rw [b1, ← gw_seven]; exact a1
