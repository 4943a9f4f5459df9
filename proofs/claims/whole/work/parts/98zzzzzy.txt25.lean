/-! ===== text: tables, the class's and the reference's ===== -/
theorem t_i32 {v : Int64} (h : ax_in3 v (-99) 99 = true) : v.toInt32.toInt64 = v := by
  have h1 : ¬ v < -99 ∧ v ≤ 99 := by
    unfold ax_in3 at h
    have e : v.toInt32.toInt64 = v.toInt32.toInt64 := rfl
    have := t_i3 (x := v) (v := 99)
    unfold ax_in3 at this
    rw [show (-99 : Int64) = -(99 : Int64) from rfl] at *
    rw [this, decide_eq_true_eq] at h
    exact h
  have e1 : (-99 : Int64).toInt = -99 := by decide
  have e2 : (99 : Int64).toInt = 99 := by decide
  rw [Int64.lt_iff_toInt_lt, Int64.le_iff_toInt_le, e1, e2] at h1
  apply Int64.toInt_inj.mp
  rw [Int32.toInt_toInt64, Int64.toInt_toInt32]
  apply Int.bmod_eq_of_le <;> omega
theorem ax_rin_hi {a q i w : Nat} {v : Int64} {J : ax_L} {j : Nat} (hj : w ≤ j) : ∀ n, n ≤ w - i → ax_rin a q i v n J q j = J q j
  | 0, _ => rfl
  | n + 1, hn => by
    show ax_u (ax_rin a q i v n J) q (i + n) _ q j = _
    rw [ax_u_nj (by omega)]; exact ax_rin_hi hj n (by omega)
theorem ax_rfo_hi {a q w f : Nat} {J : ax_L} {j : Nat} (hj : w ≤ j) : ∀ n, ax_rfo a q w f n J q j = J q j
  | 0 => rfl
  | n + 1 => by
    have ih := ax_rfo_hi (a := a) (q := q) (w := w) (f := f) (J := J) hj n
    simp only [ax_rfo]
    split
    · exact ih
    · split
      · exact ih
      · rw [ax_rin_hi (w := w) hj _ (Nat.le_refl _)]; exact ih
theorem t_mkn_c {w z : Nat} {C : ax_L} (hz : z < 9) (hw : w ≤ z % 3) (h0 : C 317 z = 0) : ∀ n, ax_mkn 317 318 597 w n C 317 z = 0
  | 0 => h0
  | n + 1 => by
    have ih := t_mkn_c hz hw h0 n
    show ax_cp (ax_rfo 597 318 w 0 (w - 0) (ax_cp (ax_mkn 317 318 597 w n C) 317 318 (3 * n) 0 3)) 318 317 0 (3 * n) 3 317 z = _
    rw [ax_cp_eq]; unfold va_cpy
    by_cases c : 3 * n ≤ z ∧ z < 3 * n + 3
    · rw [if_pos c, ax_rfo_hi (by omega), ax_cp_eq]; unfold va_cpy
      rw [if_pos (by omega), show 3 * n + (0 + (z - 3 * n) - 0) = z by omega]; exact ih
    · rw [if_neg c, ax_rfo_ne (by omega), ax_cp_ne (by omega)]; exact ih
theorem t_cmp {S : Nat → Int32} {gn gc : Nat → Nat} {p r : Nat} {C0 Lt : ax_L} {tab : Nat → Int64} (hW : rl_Wg S) (hsn : ∀ g, g < 6 → S (14 * g) = nI (gn g) ∧ gn g ≤ 3) (hsc : ∀ g, g < 6 → S (14 * g + 1) = nI (gc g) ∧ gc g ≤ 4) (p6 : p < 6) (r6 : r < 6) (hB : mt_lat C0 597 (mt_N S gn gc r)) (hhn : mt_hn (gn r) (mt_N S gn gc r)) (c0 : ∀ z, z < 9 → C0 317 z = tab z) (l0 : ∀ z, z < 9 → Lt 661 z = tab z) (tz : ∀ z, z < 9 → (gn p ≤ z / 3 ∨ gn r ≤ z % 3) → tab z = 0) :
    ax_twn (ax_mkn 317 318 597 (gn r) 3 C0 317) 99 9 = (ax_rtk 639 r gn (gn p) (ax_N1t 639 r 644 (gn r) (gc r) S Lt, true)).2 ∧ (∀ z, z < 9 → (if gn p ≤ z / 3 then nI 0 else ((ax_rtk 639 r gn (gn p) (ax_N1t 639 r 644 (gn r) (gc r) S Lt, true)).1 661 z).toInt32) = (ax_mkn 317 318 597 (gn r) 3 C0 317 z).toInt32) ∧ (∀ z, z < 9 → (gn p ≤ z / 3 ∨ gn r ≤ z % 3) → ax_mkn 317 318 597 (gn r) 3 C0 317 z = 0) ∧ (∀ q, ¬ (643 ≤ q ∧ q < 667) → (ax_rtk 639 r gn (gn p) (ax_N1t 639 r 644 (gn r) (gc r) S Lt, true)).1 q = Lt q) := by
  obtain ⟨-, hN⟩ := rl_N1t hW hsn hsc r6 (show (644 : Nat) ≠ 643 by omega) (show (644 : Nat) ≠ 649 by omega)
  obtain ⟨n1, n2, n3⟩ := hN Lt
  have p3 := (hsn p p6).2
  have r3 := (hsn r r6).2
  have T := t_rest (gn := gn) (b := r) (na := gn p) (B := mt_N S gn gc r) (C0 := C0) (R0 := ax_N1t 639 r 644 (gn r) (gc r) S Lt) (tab := tab) r3 p3 hhn n3 hB n1 c0 (fun z hz => by rw [n2 661 (by omega) (by omega) (by omega)]; exact l0 z hz) tz
  obtain ⟨-, -, t3, -⟩ := T 3 (Nat.le_refl _)
  obtain ⟨-, -, -, t4⟩ := T (gn p) p3
  obtain ⟨s1, -, s3, s4⟩ := t4 (Nat.le_refl _)
  have st : ∀ z, z < 3 * gn p → ax_mkn 317 318 597 (gn r) 3 C0 317 z = ax_mkn 317 318 597 (gn r) (gn p) C0 317 z := fun z hz => by
    have := t_mkn_z (w := gn r) (C := C0) hz (3 - gn p)
    rw [show gn p + (3 - gn p) = 3 by omega] at this; exact this
  have zr : ∀ z, z < 9 → gn p ≤ z / 3 → ax_mkn 317 318 597 (gn r) 3 C0 317 z = 0 := fun z hz h => t3 z (by omega) (by omega)
  generalize hR : ax_rtk 639 r gn (gn p) (ax_N1t 639 r 644 (gn r) (gc r) S Lt, true) = R at *
  refine ⟨?_, fun z hz => ?_, fun z hz h => ?_, fun q hq => ?_⟩
  · rw [Bool.eq_iff_iff, s4]
    unfold ax_twn
    rw [decide_eq_true_eq]
    have i3 : ∀ x : Int64, ax_in3 x (-99) 99 = true ↔ ¬ x < -99 ∧ x ≤ 99 := fun x => by
      have := t_i3 (x := x) (v := 99)
      rw [this, decide_eq_true_eq]
    refine ⟨fun h z hz => ?_, fun h z hz => ?_⟩
    · rw [← st z hz, i3]; exact h z (by omega)
    · by_cases c : z < 3 * gn p
      · have := h z c
        rw [← st z c, i3] at this; exact this
      · rw [zr z hz (by omega)]; decide
  · by_cases c : gn p ≤ z / 3
    · rw [if_pos c, zr z hz c]; rfl
    · rw [if_neg c, s3 z (by omega), st z (by omega)]
  · rcases h with h | h
    · exact zr z hz h
    · exact t_mkn_c hz h ((c0 z hz).trans (tz z hz (Or.inr h))) 3
  · rw [s1 q (by omega) (by omega)]; exact n2 q (by omega) (by omega) (by omega)
/-! ===== text: frames ===== -/
theorem t_reF {I : ax_I} {L : ax_L} {t q : Nat} {W : Nat → Int32} (h1 : q ≠ 311) (h : q < 316 ∨ 361 ≤ q) : ax_reI I L 311 t 1 W q = I q ∧ ax_reL I L 311 t 1 W q = L q := by
  rw [t_reL, t_reI.1 q h1]; exact t_Zf (by omega)
theorem t_emp {G : ax_G} {I Ie J I' : ax_I} {L Le L' : ax_L} (h : rl_Rel G I L) (e1 : ∀ q, (q < 311 ∨ (623 ≤ q ∧ q < 639) ∨ (640 ≤ q ∧ q < 643) ∨ (667 ≤ q ∧ q < 673)) → Ie q = I q) (e2 : Ie 311 1 = nI 0) (e3 : Ie 639 = I 639) (e4 : ∀ q, ((623 ≤ q ∧ q < 639) ∨ q = 669 ∨ q = 672) → Le q = L q) (j1 : ∀ q, q ≠ 639 → q ≠ 658 → J q = Ie q) (j2 : ∀ j, j < 29 → J 639 j = Ie 639 j) (j3 : J 639 29 = nI 0) (x1 : ∀ q, q ≠ 639 → q ≠ 659 → q ≠ 660 → I' q = J q) (x2 : ∀ j, j ≠ 6 → I' 639 j = J 639 j) (y : ∀ q, ¬ (643 ≤ q ∧ q < 667) → L' q = Le q) : rl_Rel G I' L' := by
  have f : ∀ q, q ≠ 639 → q ≠ 658 → q ≠ 659 → q ≠ 660 → I' q = Ie q := fun q h1 h2 h3 h4 => (x1 q h1 h3 h4).trans (j1 q h1 h2)
  refine h.emp (fun q hq => (f q (by omega) (by omega) (by omega) (by omega)).trans (e1 q hq)) ?_ ?_ ?_ ?_ (fun q hq => (y q (by omega)).trans (e4 q hq))
  · rw [f 311 (by omega) (by omega) (by omega) (by omega)]; exact e2
  · rw [x2 29 (by omega)]; exact j3
  · rw [x2 3 (by omega), j2 3 (by omega), e3]
  · rw [x2 4 (by omega), j2 4 (by omega), e3]
/-- what is asked of both -/
def t_Go (l : Launch) (D : va_G) (T : Nat → ClassId) (o f : Nat) (G : ax_G) (I : ax_I) (L : ax_L) : Prop := ∃ v : Int32, ax_Con l D T o yX10_text cX10_text 4 (some .int) 1000 0 0 [.ref 0, .int (nI f)] G I L (fun z G' I' L' => z = some (.int v) ∧ G = G' ∧ ax_Con l D T o yX11_text cX11_text 4 (some .int) 1000 0 0 [.ref 639, .int (nI f)] G I' L' (fun z2 G2 I2 L2 => z2 = some (.int v) ∧ rl_Rel G2 I2 L2))
/-- a text that is refused -/
theorem t_cno (l : Launch) (D : va_G) (T : Nat → ClassId) (o : Nat) {G : ax_G} {I : ax_I} {L : ax_L} {f t : Nat} {v : Int32} (h : rl_Rel G I L) (hf : f < 8) (ht : t ≤ 100) (h1 : I 311 1 = nI t) (hv : ax_rev I L 311 t 1 (I 312) = v) (hn : v < 0) : ax_Con l D T o yX10_text cX10_text 4 (some .int) 1000 0 0 [.ref 0, .int (nI f)] G I L (fun z G' I' L' => z = some (.int v) ∧ G = G' ∧ ax_reI I L 311 t 1 (I 312) = I' ∧ ax_reL I L 311 t 1 (I 312) = L') := by
  have K : ax_Con l D T o yX10_text cX10_text 4 (some .int) 1000 0 0 [.ref 0, .int (nI f)] G I L (fun z G' I' L' => z = some (.int (ax_rev I L 311 t 1 (I 312))) ∧ G = G' ∧ ax_reI I L 311 t 1 (I 312) = I' ∧ ax_reL I L 311 t 1 (I 312) = L') := k_X10_text_no l D T o 1000 G I L 0 t f (I 312) h.1.1 rfl ht h1 hf (by show ax_rev I L 311 t 1 (I 312) < 0; rw [hv]; exact hn) (by omega)
  rw [hv] at K; exact K
theorem t_19f (l : Launch) (D : va_G) (T : Nat → ClassId) (o : Nat) {G : ax_G} {I : ax_I} {L : ax_L} {f t N : Nat} {u : ax_TS} (h : rl_Rel G I L) (hf : f < 8) (ht : t ≤ 100) (h1 : I 311 1 = nI t) (h29 : I 639 29 = nI t) (hX : ax_tx (I 657) t N 3 0 (0, 0, false, I 658) = some u) (hp : ax_nx (I 657) (t - u.1) u.1 ≤ t) (hw : u.2.2.1 = true ∨ ¬ (ax_vl (I 657) t (ax_nx (I 657) (t - u.1) u.1) = -1 ∧ ax_nx (I 657) (t - u.1) u.1 = t)) (hrv : ax_rev I L 311 t 1 (I 312) = (-100) - nI (ax_nx (I 657) (t - u.1) u.1)) : t_Go l D T o f G I L := by
  have K := t_cno l D T o h hf ht h1 hrv (t_neg100 _ (by omega))
  have F : ∀ q, q ≠ 311 → (q < 316 ∨ 361 ≤ q) → ax_reI I L 311 t 1 (I 312) q = I q ∧ ax_reL I L 311 t 1 (I 312) q = L q := fun q a b => t_reF a b
  have z := (t_reI (I := I) (L := L) (c := t) (W := I 312)).2
  generalize ax_reI I L 311 t 1 (I 312) = Ie at *
  generalize ax_reL I L 311 t 1 (I 312) = Le at *
  have e657 := (F 657 (by omega) (by omega)).1
  have e658 := (F 658 (by omega) (by omega)).1
  have e639 := (F 639 (by omega) (by omega)).1
  have K2 : ax_Con l D T o yX11_text cX11_text 4 (some .int) 1000 0 0 [.ref 639, .int (nI f)] G Ie Le (fun v G' I' L' => v = some (.int ((-100) - nI (ax_nx (Ie 657) (t - u.1) u.1))) ∧ G = G' ∧ ax_u (ax_TI 639 (ax_nx (Ie 657) (t - u.1) u.1) u.2.1 0 u.2.2.1 u.2.2.2 Ie) 639 29 (nI 0) = I' ∧ Le = L') := k_X11_text_fault l D T o 1000 G Ie Le 639 t N f u h.1.2.1 hf (by rw [e639]; exact h29) ht (by show ax_tx (Ie 657) t N 3 0 (0, 0, false, Ie 658) = _; rw [e657, e658]; exact hX) (by show _ ∨ ¬ (ax_vl (Ie 657) t (ax_nx (Ie 657) (t - u.1) u.1) = -1 ∧ ax_nx (Ie 657) (t - u.1) u.1 = t); rw [e657]; exact hw) (by omega)
  refine ay_PI.mk K K2 (by rw [e657]) (t_emp (Ie := Ie) (Le := Le) h (fun q hq => (F q (by omega) (by omega)).1) z e639 (fun q hq => (F q (by omega) (by omega)).2) (fun q h1 h2 => ?_) (fun j hj => ?_) (ax_u_at _ _ _ _) (fun q _ _ _ => rfl) (fun _ _ => rfl) (fun _ _ => rfl))
  · rw [ax_u_ne h1, t_TI h1 (by omega)]
  · rw [ax_u_nj (by omega), t_TIm (by omega)]
