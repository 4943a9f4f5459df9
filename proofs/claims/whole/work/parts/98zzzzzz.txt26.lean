/-! ===== text: a text that is right, in both ===== -/
set_option maxRecDepth 20000 in
theorem t_19r (l : Launch) (D : va_G) (T : Nat → ClassId) (o : Nat) {G : ax_G} {I : ax_I} {L : ax_L} {f t N c k : Nat} {u : ax_TS} {gn gc : Nat → Nat} {F T' : Nat → Int32} {B : Nat → Nat → Int64} {e : Nat → Nat} {M : Nat → tM} (h : rl_Rel G I L) (hf : f < 8) (ht : t ≤ 100) (h1 : I 311 1 = nI t) (h29 : I 639 29 = nI t)
    (a1 : c < 20) (a2 : k ≤ 20) (a3 : I 29 1 = nI c) (a4 : I 29 2 = nI k) (a5 : I 639 3 = nI k) (a6 : ∀ i, i < k → rl_St (31 + 14 * ((c + 20 - k + i) % 20)) I (fun z => I 642 (353 * i + z)))
    (hgn : ∀ g, g < 6 → I 2 g = nI (gn g) ∧ gn g ≤ 3) (hgc : ∀ g, g < 6 → I 3 g = nI (gc g) ∧ gc g ≤ 4) (hsn : ∀ g, g < 6 → I 640 (14 * g) = nI (gn g) ∧ gn g ≤ 3) (hsc : ∀ g, g < 6 → I 640 (14 * g + 1) = nI (gc g) ∧ gc g ≤ 4)
    (hX : ax_tx (I 657) t N 3 0 (0, 0, false, I 658) = some u) (hwr : u.2.2.1 = false) (hvl : ax_vl (I 657) t (ax_nx (I 657) (t - u.1) u.1) = -1) (hnx : ax_nx (I 657) (t - u.1) u.1 = t) (hS : tS (I 640) gn F T' B) (hR : tR F T' B e M u.2.1) (hce : ∀ k, k < u.2.1 → u.2.2.2 k = nI (e k)) (he : ∀ k, e k ≤ 43) (hno : ∀ k, k < u.2.1 → 8 ≤ e k → 20 ≤ e k) (hd1 : (M u.2.1).1 = 1)
    (htc : tc (tZs I L t (I 312)).2.2.2.2.2.1 (tZs I L t (I 312)).2.2.2.2.2.2 316 317 ((M u.2.1).2.1 0))
    (hrv : ax_rev I L 311 t 1 (I 312) = if (M u.2.1).2.2.1 = true then (-300) else (if (M u.2.1).2.2.2.1 = true then (-301) else (if (M u.2.1).2.2.2.2 = true then (-16) else nI 1))) : t_Go l D T o f G I L := by
  obtain ⟨r1, r2, -⟩ := id h
  have RR := fun (Ie : ax_I) (Le : ax_L) (x1 : Ie 640 = I 640) (x2 : Ie 639 = I 639) (x3 : Ie 657 = I 657) (x4 : Ie 658 = I 658) => t_right l D T o (Ie := Ie) (Le := Le) (S := I 640) (gn := gn) (gc := gc) (c := t) (N := N) (f := f) (c3 := k) (u := u) r1.2.1 r2.2.1 hsn hsc x1 hf (by rw [x2]; exact a5) a2 (by rw [x2]; exact h29) ht (by rw [x3, x4]; exact hX) hwr (by rw [x3]; exact hvl) (by rw [x3]; exact hnx) hS hR hce he hno hd1
  have Fr : ∀ q, q ≠ 311 → (q < 316 ∨ 361 ≤ q) → ax_reI I L 311 t 1 (I 312) q = I q ∧ ax_reL I L 311 t 1 (I 312) q = L q := fun q a b => t_reF a b
  have z11 := (t_reI (I := I) (L := L) (c := t) (W := I 312)).2
  have tc1 : ax_reI I L 311 t 1 (I 312) 316 0 = ((M u.2.1).2.1 0).1 := by rw [t_reI.1 316 (by omega)]; exact htc.1
  have tc2 : ax_reI I L 311 t 1 (I 312) 316 1 = ((M u.2.1).2.1 0).2.1 := by rw [t_reI.1 316 (by omega)]; exact htc.2.1
  have tc3 : ∀ z, z < 9 → ax_reL I L 311 t 1 (I 312) 317 z = ((M u.2.1).2.1 0).2.2 z := fun z hz => by rw [t_reL]; exact htc.2.2 z hz
  have no := fun (v : Int32) (hv : ax_rev I L 311 t 1 (I 312) = v) (hn : v < 0) => t_cno l D T o h hf ht h1 hv hn
  have emp : ∀ (J I' : ax_I) (L' : ax_L), (∀ q, q ≠ 639 → q ≠ 658 → J q = ax_reI I L 311 t 1 (I 312) q) → (∀ j, j < 29 → J 639 j = ax_reI I L 311 t 1 (I 312) 639 j) → J 639 29 = nI 0 → (∀ q, q ≠ 639 → q ≠ 659 → q ≠ 660 → I' q = J q) → (∀ j, j ≠ 6 → I' 639 j = J 639 j) → (∀ q, ¬ (643 ≤ q ∧ q < 667) → L' q = ax_reL I L 311 t 1 (I 312) q) → rl_Rel G I' L' := fun J I' L' j1 j2 j3 x1 x2 y => t_emp (Ie := ax_reI I L 311 t 1 (I 312)) (Le := ax_reL I L 311 t 1 (I 312)) h (fun q hq => (Fr q (by omega) (by omega)).1) z11 (Fr 639 (by omega) (by omega)).1 (fun q hq => (Fr q (by omega) (by omega)).2) j1 j2 j3 x1 x2 y
  have R0 := RR (ax_reI I L 311 t 1 (I 312)) (ax_reL I L 311 t 1 (I 312)) (Fr 640 (by omega) (by omega)).1 (Fr 639 (by omega) (by omega)).1 (Fr 657 (by omega) (by omega)).1 (Fr 658 (by omega) (by omega)).1
  obtain ⟨J, v, I', L', j1, j2, j3, K, P1, P2, P3, P4⟩ := R0
  cases c1 : (M u.2.1).2.2.1 with
  | true =>
    obtain ⟨rfl, rfl, rfl⟩ := P1 c1
    exact ay_PI.mk (no (-300) (by rw [hrv, c1]; rfl) (by decide)) K rfl (emp _ _ _ j1 j2 j3 (fun _ _ _ _ => rfl) (fun _ _ => rfl) (fun _ _ => rfl))
  | false =>
  cases c2 : (M u.2.1).2.2.2.1 with
  | true =>
    obtain ⟨rfl, y1, rfl⟩ := P2 c1 c2
    exact ay_PI.mk (no (-301) (by rw [hrv, c1, c2]; rfl) (by decide)) K rfl (emp _ _ _ j1 j2 j3 (fun q _ a b => y1 q a b) (fun j _ => congrFun (y1 639 (by omega) (by omega)) j) (fun _ _ => rfl))
  | false =>
  cases c3 : (M u.2.1).2.2.2.2 with
  | true =>
    obtain ⟨rfl, y1, y2⟩ := P3 c1 c2 c3
    exact ay_PI.mk (no (-16) (by rw [hrv, c1, c2, c3]; rfl) (by decide)) K rfl (emp _ _ _ j1 j2 j3 (fun q _ a b => y1 q a b) (fun j _ => congrFun (y1 639 (by omega) (by omega)) j) (fun q hq => y2 q (by omega) (by omega)))
  | false =>
  obtain ⟨p, r, p6, r6, g1, g2, gz, -⟩ := P4 c1 c2 c3
  clear P1 P2 P3 P4 K j1 j2 j3 emp no J v I' L'
  have hrv1 : ax_rev I L 311 t 1 (I 312) = nI 1 := by rw [hrv, c1, c2, c3]; rfl
  have KG : ax_twn (ax_mkn 317 318 597 (gn r) 3 (ax_nth (ax_reI I L 311 t 1 (I 312)) 1 597 r (gn r) (gc r) (ax_reL I L 311 t 1 (I 312))) 317) 99 9 = false → ax_Con l D T o yX10_text cX10_text 4 (some .int) 1000 0 0 [.ref 0, .int (nI f)] G I L (fun zz G' I' L' => zz = some (.int (-16)) ∧ G = G' ∧ ax_u (ax_reI I L 311 t 1 (I 312)) 597 2 (nI (gn r)) = I' ∧ ax_mkn 317 318 597 (gn r) 3 (ax_nth (ax_reI I L 311 t 1 (I 312)) 1 597 r (gn r) (gc r) (ax_reL I L 311 t 1 (I 312))) = L') := fun hw => k_X10_text_great l D T o 1000 G I L 0 t f p r (I 312) gn gc r1.1 rfl ht h1 hgn hgc hf hrv1 (tc1.trans g1) p6 (tc2.trans g2) r6 hw (by omega)
  have KT : ax_twn (ax_mkn 317 318 597 (gn r) 3 (ax_nth (ax_reI I L 311 t 1 (I 312)) 1 597 r (gn r) (gc r) (ax_reL I L 311 t 1 (I 312))) 317) 99 9 = true → ax_Con l D T o yX10_text cX10_text 4 (some .int) 1000 0 0 [.ref 0, .int (nI f)] G I L (fun zz G' I' L' => zz = some (.int (nI 1)) ∧ G = G' ∧ ax_tkm (ax_mkn 317 318 597 (gn r) 3 (ax_nth (ax_reI I L 311 t 1 (I 312)) 1 597 r (gn r) (gc r) (ax_reL I L 311 t 1 (I 312)))) 1 f 317 9 (ax_u (ax_u (ax_rem 0 c k (ax_u (ax_reI I L 311 t 1 (I 312)) 597 2 (nI (gn r)))) 5 f ((ax_rem 0 c k (ax_u (ax_reI I L 311 t 1 (I 312)) 597 2 (nI (gn r)))) 316 0)) 6 f ((ax_u (ax_rem 0 c k (ax_u (ax_reI I L 311 t 1 (I 312)) 597 2 (nI (gn r)))) 5 f ((ax_rem 0 c k (ax_u (ax_reI I L 311 t 1 (I 312)) 597 2 (nI (gn r)))) 316 0)) 316 1)) = I' ∧ ax_mkn 317 318 597 (gn r) 3 (ax_nth (ax_reI I L 311 t 1 (I 312)) 1 597 r (gn r) (gc r) (ax_reL I L 311 t 1 (I 312))) = L') := fun hw => k_X10_text l D T o 1000 G I L 0 t f p r c k (I 312) gn gc r1.1 rfl ht h1 hgn hgc a3 a4 a1 a2 hf hrv1 (tc1.trans g1) p6 (tc2.trans g2) r6 hw (by omega)
  generalize ax_reI I L 311 t 1 (I 312) = Ir at *
  generalize ax_reL I L 311 t 1 (I 312) = Lr at *
  rw [g1] at tc1
  rw [g2] at tc2
  have r2r : rl_St 1 Ir (I 640) := r2.keep (by rw [(Fr 1 (by omega) (by omega)).1]) (fun q z1 z2 => (Fr q (by omega) (by omega)).1) (fun _ _ => rfl)
  obtain ⟨hB, ⟨hhn, -, -⟩, fr⟩ := rl_nth (x := 597) r2r hsn hsc r6 (by omega) Lr
  generalize ax_nth Ir 1 597 r (gn r) (gc r) Lr = C0 at *
  have c0 : ∀ z, z < 9 → C0 317 z = ((M u.2.1).2.1 0).2.2 z := fun z hz => by rw [fr 317 (by omega)]; exact tc3 z hz
  have C3f : ∀ q, q ≠ 317 → q ≠ 318 → (q < 599 ∨ 605 < q) → ax_mkn 317 318 597 (gn r) 3 C0 q = Lr q := fun q q1 q2 q3 => (t_mkn_ne q1 q2 3).trans (fr q (by omega))
  have cmp := fun (Lt : ax_L) (l1 : ∀ z, z < 9 → Lt 661 z = ((M u.2.1).2.1 0).2.2 z) => t_cmp (Lt := Lt) r2.2.1 hsn hsc p6 r6 hB hhn c0 l1 gz
  have pr : ∀ p' r', p' < 6 → r' < 6 → ((M u.2.1).2.1 0).1 = nI p' → ((M u.2.1).2.1 0).2.1 = nI r' → p' = p ∧ r' = r := fun p' r' h1 h2 h3 h4 => ⟨(nI_eq (by omega) (by omega)).mp (h3.symm.trans g1), (nI_eq (by omega) (by omega)).mp (h4.symm.trans g2)⟩
  generalize ax_mkn 317 318 597 (gn r) 3 C0 = C3 at *
  cases tw : ax_twn (C3 317) 99 9 with
  | false =>
    have fI : ∀ q, q ≠ 597 → ax_u Ir 597 2 (nI (gn r)) q = Ir q := fun q hq => ax_u_ne hq
    have R1 := RR (ax_u Ir 597 2 (nI (gn r))) C3 ((fI 640 (by omega)).trans (Fr 640 (by omega) (by omega)).1) ((fI 639 (by omega)).trans (Fr 639 (by omega) (by omega)).1) ((fI 657 (by omega)).trans (Fr 657 (by omega) (by omega)).1) ((fI 658 (by omega)).trans (Fr 658 (by omega) (by omega)).1)
    obtain ⟨J, v, I', L', j1, j2, j3, K, -, -, -, P4⟩ := R1
    obtain ⟨p', r', p6', r6', g1', g2', -, Lt, X, l1, l2, x1, x2, eL, P5, -⟩ := P4 c1 c2 c3
    obtain ⟨rfl, rfl⟩ := pr p' r' p6' r6' g1' g2'
    obtain ⟨k1, -, -, k4⟩ := cmp Lt l1
    obtain ⟨rfl, rfl⟩ := P5 (by rw [← k1]; exact tw)
    exact ay_PI.mk (KG tw) K rfl (t_emp (Ie := ax_u Ir 597 2 (nI (gn r'))) (Le := C3) h (fun q hq => (fI q (by omega)).trans (Fr q (by omega) (by omega)).1) (by rw [fI 311 (by omega)]; exact z11) ((fI 639 (by omega)).trans (Fr 639 (by omega) (by omega)).1) (fun q hq => (C3f q (by omega) (by omega) (by omega)).trans (Fr q (by omega) (by omega)).2) j1 j2 j3 x1 x2 (fun q hq => by rw [eL, k4 q hq]; exact l2 q (by omega) (by omega)))
  | true =>
    have K1 := KT tw
    clear KG KT
    have cI : ∀ q, q ≠ 597 → ax_u Ir 597 2 (nI (gn r)) q = Ir q := fun q hq => ax_u_ne hq
    generalize ax_u Ir 597 2 (nI (gn r)) = Ic at *
    have e316 : ax_rem 0 c k Ic 316 = Ir 316 := (ax_rem_ne a1 (by omega)).trans (cI 316 (by omega))
    rw [show (ax_u (ax_rem 0 c k Ic) 5 f (ax_rem 0 c k Ic 316 0)) 316 1 = nI r by rw [ax_u_ne (by omega), e316]; exact tc2, show ax_rem 0 c k Ic 316 0 = nI p by rw [e316]; exact tc1] at K1
    have q0 := t_tkm (C := C3) (a := 1) (k := f) (x := 317) (J := ax_u (ax_u (ax_rem 0 c k Ic) 5 f (nI p)) 6 f (nI r)) 9
    generalize ax_tkm C3 1 f 317 9 (ax_u (ax_u (ax_rem 0 c k Ic) 5 f (nI p)) 6 f (nI r)) = TX at *
    have f1 : ∀ q, q ≠ 5 → q ≠ 6 → q ≠ 7 → TX q = ax_rem 0 c k Ic q := fun q h1 h2 h3 => by
      funext z; rw [q0, if_neg (fun y => h3 y.1), ax_u_ne h2, ax_u_ne h1]
    have fr2 : ∀ q, (q < 29 ∨ 311 ≤ q) → q ≠ 597 → ax_rem 0 c k Ic q = Ir q := fun q hq h5 => (ax_rem_ne a1 (by omega)).trans (cI q h5)
    have f5 : ∀ z, TX 5 z = if z = f then nI p else I 5 z := fun z => by
      rw [q0, if_neg (fun y => absurd y.1 (by omega)), ax_u_ne (by omega), ax_u_eq, fr2 5 (by omega) (by omega), (Fr 5 (by omega) (by omega)).1]
    have f6 : ∀ z, TX 6 z = if z = f then nI r else I 6 z := fun z => by
      rw [q0, if_neg (fun y => absurd y.1 (by omega)), ax_u_eq, ax_u_ne (by omega), fr2 6 (by omega) (by omega), (Fr 6 (by omega) (by omega)).1]
    have f7 : ∀ z, TX 7 z = if 9 * f ≤ z ∧ z < 9 * f + 9 then (C3 317 (z - 9 * f)).toInt32 else I 7 z := fun z => by
      rw [q0]
      by_cases y : 9 * f ≤ z ∧ z < 9 * f + 9
      · rw [if_pos ⟨rfl, y⟩, if_pos y]
      · rw [if_neg (fun w => y w.2), if_neg y, ax_u_ne (by omega), ax_u_ne (by omega), fr2 7 (by omega) (by omega), (Fr 7 (by omega) (by omega)).1]
    have f8 : ∀ q, 361 ≤ q → q ≠ 597 → TX q = I q := fun q hq h5 => (f1 q (by omega) (by omega) (by omega)).trans ((fr2 q (by omega) h5).trans (Fr q (by omega) (by omega)).1)
    have R1 := RR TX C3 (f8 640 (by omega) (by omega)) (f8 639 (by omega) (by omega)) (f8 657 (by omega) (by omega)) (f8 658 (by omega) (by omega))
    obtain ⟨J, v, I', L', j1, j2, j3, K, -, -, -, P4⟩ := R1
    obtain ⟨p', r', p6', r6', g1', g2', -, Lt, X, l1, l2, x1, x2, eL, -, P6⟩ := P4 c1 c2 c3
    obtain ⟨rfl, rfl⟩ := pr p' r' p6' r6' g1' g2'
    obtain ⟨k1, k2, k3, k4⟩ := cmp Lt l1
    obtain ⟨rfl, hI⟩ := P6 (by rw [← k1]; exact tw)
    rw [← eL] at k2 k4 hI
    have i1 : ∀ q, q ≠ 640 → I' q = ax_ch 639 k X q := fun q hq => by rw [hI, ax_bcl_ne (m := 639) hq, ax_u_ne hq, ax_u_ne hq]
    have i2 : ∀ z, I' 640 z = if 84 + 11 * f + 2 ≤ z ∧ z < 84 + 11 * f + 2 + 9 then (if gn p' ≤ (z - (84 + 11 * f + 2)) / 3 then nI 0 else (L' 661 (z - (84 + 11 * f + 2))).toInt32) else if z = 84 + 11 * f + 1 then nI r' else if z = 84 + 11 * f then nI p' else ax_ch 639 k X 640 z := fun z => by
      rw [hI, t_bcl, ax_u_eq, ax_u_eq]
    refine ay_PI.mk K1 K rfl ?_
    clear hI P6 P4 K1 K RR cmp pr q0
    have xq : ∀ q, q ≠ 639 → q ≠ 658 → q ≠ 659 → q ≠ 660 → X q = TX q := fun q h1 h2 h3 h4 => (x1 q h1 h3 h4).trans (j1 q h1 h2)
    have xm : ∀ j, j < 29 → j ≠ 6 → X 639 j = I 639 j := fun j h1 h2 => ((x2 j h2).trans (j2 j h1)).trans (congrFun (f8 639 (by omega) (by omega)) j)
    have iq : ∀ q, q ≠ 639 → q ≠ 640 → q ≠ 642 → q ≠ 658 → q ≠ 659 → q ≠ 660 → I' q = TX q := fun q h1 h2 h3 h4 h5 h6 => ((i1 q h2).trans (ax_ch_ne h1 h3)).trans (xq q h1 h4 h5 h6)
    have io : ∀ z, (z < 84 + 11 * f ∨ 84 + 11 * f + 11 ≤ z) → I' 640 z = I 640 z := fun z hz => by
      rw [i2, if_neg (by omega), if_neg (by omega), if_neg (by omega), ax_ch_ne (by omega) (by omega), xq 640 (by omega) (by omega) (by omega) (by omega), f8 640 (by omega) (by omega)]
    have is0 : I' 640 (84 + 11 * f) = nI p' := by rw [i2, if_neg (by omega), if_neg (by omega), if_pos rfl]
    have is1 : I' 640 (84 + 11 * f + 1) = nI r' := by rw [i2, if_neg (by omega), if_pos rfl]
    have is2 : ∀ z, z < 9 → I' 640 (84 + 11 * f + 2 + z) = (C3 317 z).toInt32 := fun z hz => by
      rw [i2, if_pos (show 84 + 11 * f + 2 ≤ 84 + 11 * f + 2 + z ∧ 84 + 11 * f + 2 + z < 84 + 11 * f + 2 + 9 by omega), show 84 + 11 * f + 2 + z - (84 + 11 * f + 2) = z by omega]
      exact k2 z hz
    have il : ∀ q, q < 15 → I' q = TX q := fun q hq => iq q (by omega) (by omega) (by omega) (by omega) (by omega) (by omega)
    have tw9 : ∀ z, z < 9 → ax_in3 (C3 317 z) (-99) 99 = true := fun z hz => by
      unfold ax_twn at tw
      rw [decide_eq_true_eq] at tw
      have := t_i3 (x := C3 317 z) (v := 99)
      rw [show (-(99 : Int64)) = -99 from rfl] at this
      rw [this, decide_eq_true_eq]
      exact tw z hz
    refine h.txt (c := c) (k := k) (Ic := Ic) (X := X) a1 a2 a6 (fun q hq => ?_) ?_ ?_ ?_ ?_ ?_ (fun q h1 h2 => ?_) (fun q hq => ?_) ?_ ?_ ?_ ?_ ?_ (fun q hq => ?_)
    · exact (cI q (by omega)).trans (Fr q (by omega) (by omega)).1
    · exact (cI 640 (by omega)).trans (Fr 640 (by omega) (by omega)).1
    · exact (cI 642 (by omega)).trans (Fr 642 (by omega) (by omega)).1
    · exact (xq 640 (by omega) (by omega) (by omega) (by omega)).trans (f8 640 (by omega) (by omega))
    · exact (xq 642 (by omega) (by omega) (by omega) (by omega)).trans (f8 642 (by omega) (by omega))
    · refine r2.map (j := f) hf (fun q z1 z2 z3 z4 => ?_) (fun z hz => ?_) (fun z hz => ?_) (fun g i hg hi => ?_) io ⟨p', r', gn p', gn r', ⟨hf, p6, r6, (hsn p' p6).2, (hsn r' r6).2, is0, is1, by rw [io _ (by omega)]; exact (hsn p' p6).1, by rw [io _ (by omega)]; exact (hsn r' r6).1⟩, ?_, ?_, fun i hi => ?_, fun i i2 hi hi2 => ?_⟩
      · rw [il q z1, f1 q z2 z3 z4, fr2 q (by omega) (by omega)]; exact (Fr q (by omega) (by omega)).1
      · rw [il 5 (by omega), f5, if_neg hz]
      · rw [il 6 (by omega), f6, if_neg hz]
      · rw [il 7 (by omega), f7, if_neg (by omega)]
      · rw [il 5 (by omega), f5, if_pos rfl]
      · rw [il 6 (by omega), f6, if_pos rfl]
      · rw [il 7 (by omega), f7, if_pos (by omega), is2 i hi, show 9 * f + i - 9 * f = i by omega]
      · rw [Nat.add_assoc, is2 (3 * i + i2) (by omega), t_i32 (tw9 _ (by omega))]
        refine ⟨tw9 _ (by omega), fun hn => ?_⟩
        rw [k3 (3 * i + i2) (by omega) (by omega)]; rfl
    · rw [iq q (by omega) (by omega) (by omega) (by omega) (by omega) (by omega)]; exact f1 q (by omega) (by omega) (by omega)
    · rw [iq q (by omega) (by omega) (by omega) (by omega) (by omega) (by omega)]
      by_cases c : q < 316
      · rw [f1 q (by omega) (by omega) (by omega), fr2 q (by omega) (by omega)]; exact (Fr q (by omega) (by omega)).1
      · exact f8 q (by omega) (by omega)
    · rw [i1 639 (by omega)]
    · exact i1 642 (by omega)
    · rw [iq 311 (by omega) (by omega) (by omega) (by omega) (by omega) (by omega), f1 311 (by omega) (by omega) (by omega), fr2 311 (by omega) (by omega)]; exact z11
    · rw [i1 639 (by omega), ax_ch_oj (by omega), x2 29 (by omega)]; exact j3
    · rw [i1 639 (by omega), ax_ch_oj (by omega)]; exact xm 4 (by omega) (by omega)
    · rw [k4 q (by omega), l2 q (by omega) (by omega), C3f q (by omega) (by omega) (by omega)]; exact (Fr q (by omega) (by omega)).2
set_option maxRecDepth 20000 in
theorem rl_19 (l : Launch) (D : va_G) (T : Nat → ClassId) (o : Nat) : law_P19 l D T o 1000 rl_Rel 0 639 := by
  intro x G I L h
  obtain ⟨r1, r2, ⟨c, k, a1, a2, a3, a4, a5, a6⟩, -, ⟨t, ht, t1, t2, hT⟩, -, -⟩ := id h
  cases hb : ax_rng (x 1) 8 with
  | false => exact ay_PI.mk (k_X10_text_bad l D T o 1000 G I L 0 (x 1) r1.1 hb (by omega)) (k_X11_text_bad l D T o 1000 G I L 639 (x 1) r1.2.1 (by omega) (by rw [← rl_rng8]; exact hb)) rfl h
  | true =>
    rw [rl_rng8] at hb
    obtain ⟨f, hf, ef⟩ := ax_in3_nat (h := 7) (by omega) hb
    rw [ef]
    show t_Go l D T o f G I L
    obtain ⟨gn, gc, hgn, hgc, hsn, hsc⟩ := rl_gngc r2
    have hT' : tT (I 312) (I 657) t := hT
    obtain ⟨N, u, hX, hu, q1, q2, w, ok⟩ := t_par (L := L) hT' ht
    obtain ⟨hp, v1, v2⟩ := t_rv (N := N) hT' hu q1 q2 w
    by_cases hw : u.2.2.1 = true ∨ ¬ (ax_vl (I 657) t (ax_nx (I 657) (t - u.1) u.1) = -1 ∧ ax_nx (I 657) (t - u.1) u.1 = t)
    · exact t_19f l D T o h (by omega) ht t1 t2 hX hp hw (v1 hw)
    · have hw1 : u.2.2.1 = false := by
        cases c : u.2.2.1 with
        | false => rfl
        | true => exact absurd (Or.inl c) hw
      have hw2 : ax_vl (I 657) t (ax_nx (I 657) (t - u.1) u.1) = -1 ∧ ax_nx (I 657) (t - u.1) u.1 = t := Classical.byContradiction fun y => hw (Or.inr y)
      obtain ⟨o1, o2, o3, o4⟩ := ok hw1
      obtain ⟨e, hR, hce, he, hno⟩ := t_tR o1
      have rv := v2 hw1 hw2.2
      rw [o3.1, o3.2.1, o3.2.2] at rv
      exact t_19r l D T o (M := fun k => t_run (I 5) (I 6) (fun f z => (I 7 (9 * f + z)).toInt64) u.2.2.2 k) h (by omega) ht t1 t2 a1 a2 a3 a4 a5 a6 hgn hgc hsn hsc hX hw1 hw2.1 hw2.2 (t_tS r2 hsn) hR hce he hno o2 o4 rv
