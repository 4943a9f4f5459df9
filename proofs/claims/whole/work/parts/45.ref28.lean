/-! ===== the reference: a faulty text ===== -/
theorem ax_TI_0 {m : Nat} {I : ax_I} : ax_u (ax_u (ax_u (ax_u I m 30 (nI 0)) m 31 (nI 0)) m 32 (nI 0)) m 33 (nI 0) = ax_TI m 0 0 0 false (I (m + 19)) I := by
  funext q j
  unfold ax_u ax_TI
  by_cases hq : q = m
  · subst hq
    have h1 : ¬ q = q + 19 := by omega
    simp only [if_neg h1, if_true]
    by_cases h30 : j = 30
    · subst h30; simp
    · by_cases h31 : j = 31
      · subst h31; simp
      · by_cases h32 : j = 32
        · subst h32; simp
        · by_cases h33 : j = 33
          · subst h33; simp; rfl
          · simp [h30, h31, h32, h33]
  · simp only [if_neg hq]
    by_cases h19 : q = m + 19
    · subst h19; simp
    · simp [h19]
set_option maxRecDepth 20000 in
/-- text, faulty -/
theorem k_X11_text_fault (l : Launch) (D : va_G) (T : Nat → ClassId) (o d : Nat) (G : ax_G) (I : ax_I) (L : ax_L) (m c n f : Nat) (u : ax_TS) (hM : ax_Mod G m) (hf : f < 8) (hc : I m 29 = nI c) (hc1 : c ≤ 100) (hX : ax_tx (I (m + 18)) c n 3 0 (0, 0, false, I (m + 19)) = some u) (hw : u.2.2.1 = true ∨ ¬ (ax_vl (I (m + 18)) c (ax_nx (I (m + 18)) (c - u.1) u.1) = -1 ∧ ax_nx (I (m + 18)) (c - u.1) u.1 = c)) (hd : 17 ≤ d) : ax_Con l D T o yX11_text cX11_text 4 (some .int) d 0 0 [.ref m, .int (nI f)] G I L (fun v G' I' L' => v = some (.int ((-100) - nI (ax_nx (I (m + 18)) (c - u.1) u.1))) ∧ G = G' ∧ ax_u (ax_TI m (ax_nx (I (m + 18)) (c - u.1) u.1) u.2.1 0 u.2.2.1 u.2.2.2 I) m 29 (nI 0) = I' ∧ L = L') := by
  refine ax_enter (by decide +kernel) (Nat.le_of_ble_eq_true rfl) ?_
  intro p_ e_ s_ m_ args_ below_ meth_ c_ C _
  refine x_lvs (lv' := [(0, .ref m), (1, .int (nI f))]) rfl ?_
  refine x_iload_n C (dk ddX11_text 0 rfl) rfl ?_
  refine x_i2l_n C (dk ddX11_text 1 rfl) (by omega) ?_
  refine x_lconst C (v := 0) (dk ddX11_text 2 rfl) (by decide) ?_
  refine x_ldc2 C klX11_127 (dk ddX11_text 3 rfl) ?_
  refine x_callS C (As := [.long (lN f), .long 0, .long 7]) (k_X11_in l D T o (d - 1) G I L (lN f) 0 7) mlX11_123 ⟨by show d - 1 + 1 ≤ d; omega, by show 40 * (d - 1 + 1) ≤ 40 * d; omega⟩ ⟨Nat.le_refl _, Nat.le_refl _⟩ rfl (Nat.le_of_ble_eq_true rfl) (dk ddX11_text 4 rfl) ?_
  rintro v_ G_ I_ L_ ⟨rfl, rfl, rfl, rfl⟩
  rw [show (ax_in3 (lN f) 0 7) = true from ax_in3_okL (h := 7) (by omega) (by decide)]
  refine x_if_ne_b C (tgt := 14) (dk ddX11_text 5 rfl) (by decide) (fun _ => ?_) (fun h_ => absurd h_ (by decide))
  refine x_aload_n C (dk ddX11_text 8 rfl) rfl ?_
  refine x_iconst C (v := nI 0) (dk ddX11_text 9 rfl) (by decide) ?_
  refine x_puti C flX11_336 fw11 rfl rfl (hM.lt (j := 0) (by decide)) hM.2.1 rfl rfl (dk ddX11_text 10 rfl) ?_
  refine x_aload_n C (dk ddX11_text 11 rfl) rfl ?_
  refine x_iconst C (v := nI 0) (dk ddX11_text 12 rfl) (by decide) ?_
  refine x_puti C flX11_346 fw11 rfl rfl (hM.lt (j := 0) (by decide)) hM.2.1 rfl rfl (dk ddX11_text 13 rfl) ?_
  refine x_aload_n C (dk ddX11_text 14 rfl) rfl ?_
  refine x_iconst C (v := nI 0) (dk ddX11_text 15 rfl) (by decide) ?_
  refine x_puti C flX11_352 fw11 rfl rfl (hM.lt (j := 0) (by decide)) hM.2.1 rfl rfl (dk ddX11_text 16 rfl) ?_
  refine x_aload_n C (dk ddX11_text 17 rfl) rfl ?_
  refine x_iconst C (v := nI 0) (dk ddX11_text 18 rfl) (by decide) ?_
  refine x_puti C flX11_339 fw11 rfl rfl (hM.lt (j := 0) (by decide)) hM.2.1 rfl rfl (dk ddX11_text 19 rfl) ?_
  rw [ax_TI_0]
  refine x_aload_n C (dk ddX11_text 20 rfl) rfl ?_
  refine x_callV C (ci := 11) (As := []) ((k_X11_texts l D T o G I L m c hM hc hc1 (n + 1) n (by omega)).2.2 (d - 1) 0 (by omega) (by omega) (0, 0, false, I (m + 19)) u (Nat.zero_le _) (Nat.le_refl _) hX) mlX11_358 rfl rfl (hM.lt (j := 0) (by decide)) hM.2.1 ⟨by show d - 1 + 1 ≤ d; omega, by show 40 * (d - 1 + 1) ≤ 40 * d; omega⟩ ⟨Nat.le_refl _, Nat.le_refl _⟩ rfl (Nat.le_of_ble_eq_true rfl) (dk ddX11_text 21 rfl) ?_
  rintro v_ G_ I_ L_ ⟨rfl, rfl, rfl, rfl⟩
  have g_ := ax_tx_gr (s := (0, 0, false, I (m + 19))) (Nat.zero_le _) hX
  have g1_ := g_.2.1
  have g2_ : u.2.1 + 0 ≤ 0 + u.1 := g_.2.2
  refine x_aload_n C (dk ddX11_text 22 rfl) rfl ?_
  refine x_callV C (ci := 11) (As := []) (k_X11_next l D T o (d - 1) G I L m c u.1 u.2.1 0 u.2.2.1 u.2.2.2 hM hc hc1 (by omega) (by omega)) mlX11_343 rfl rfl (hM.lt (j := 0) (by decide)) hM.2.1 ⟨by show d - 1 + 1 ≤ d; omega, by show 40 * (d - 1 + 1) ≤ 40 * d; omega⟩ ⟨Nat.le_refl _, Nat.le_refl _⟩ rfl (Nat.le_of_ble_eq_true rfl) (dk ddX11_text 23 rfl) ?_
  rintro v_ G_ I_ L_ ⟨rfl, rfl, rfl, rfl⟩
  have hx39_ := ax_nx_le (I (m + 18)) (c - u.1) u.1
  refine x_iconst C (v := (-1)) (dk ddX11_text 24 rfl) (by decide) ?_
  refine x_icmp_ne C (tgt := 61) (dk ddX11_text 25 rfl) (by decide) (fun h43 => ?_) (fun h43 => ?_)
  · refine x_iconst C (v := nI 0) (dk ddX11_text 33 rfl) (by decide) ?_
    refine x_istore_n C (lv' := [(2, .int (nI 0)), (0, .ref m), (1, .int (nI f))]) (dk ddX11_text 34 rfl) (by decide) rfl ?_
    refine x_aload_n C (dk ddX11_text 35 rfl) rfl ?_
    refine x_geti C flX11_336 rfl (hM.lt (j := 0) (by decide)) hM.2.1 (dk ddX11_text 36 rfl) ?_
    rw [show ((ax_TI m (ax_nx (I (m + 18)) (c - u.1) u.1) u.2.1 0 u.2.2.1 u.2.2.2 I) m 30) = nI (ax_nx (I (m + 18)) (c - u.1) u.1) from ax_TI_30]
    refine x_istore_n C (lv' := [(3, .int (nI (ax_nx (I (m + 18)) (c - u.1) u.1))), (2, .int (nI 0)), (0, .ref m), (1, .int (nI f))]) (dk ddX11_text 37 rfl) (by decide) rfl ?_
    refine x_aload_n C (dk ddX11_text 38 rfl) rfl ?_
    refine x_iconst C (v := nI 0) (dk ddX11_text 39 rfl) (by decide) ?_
    refine x_puti C flX11_333 fw11 rfl rfl (hM.lt (j := 0) (by decide)) hM.2.1 rfl rfl (dk ddX11_text 40 rfl) ?_
    refine x_aload_n C (dk ddX11_text 41 rfl) rfl ?_
    refine x_geti C flX11_339 rfl (hM.lt (j := 0) (by decide)) hM.2.1 (dk ddX11_text 42 rfl) ?_
    rw [show ((ax_u (ax_TI m (ax_nx (I (m + 18)) (c - u.1) u.1) u.2.1 0 u.2.2.1 u.2.2.2 I) m 29 (nI 0)) m 33) = ax_b u.2.2.1 from ((ax_u_nj (by decide)).trans ax_TI_33)]
    refine x_if_ne_b C (tgt := 84) (dk ddX11_text 43 rfl) (by decide) (fun h77 => ?_) (fun h77 => ?_)
    · refine x_bipush C (v := (-100)) (dk ddX11_text 46 rfl) (by decide) ?_
      refine x_iload_n C (dk ddX11_text 47 rfl) rfl ?_
      refine x_isub C (dk ddX11_text 48 rfl) ?_
      refine x_goto C (tgt := 96) (dk ddX11_text 49 rfl) (by decide) ?_
      exact x_iret C rfl ⟨rfl, rfl, rfl, rfl⟩ rfl rfl (dk ddX11_text 53 rfl)
    · refine x_iload_n C (dk ddX11_text 44 rfl) rfl ?_
      refine x_if_ne_n C (tgt := 91) (dk ddX11_text 45 rfl) (by decide) (by decide) (fun h_ => absurd h_ (by decide)) (fun _ => ?_)
      refine x_bipush C (v := (-100)) (dk ddX11_text 46 rfl) (by decide) ?_
      refine x_iload_n C (dk ddX11_text 47 rfl) rfl ?_
      refine x_isub C (dk ddX11_text 48 rfl) ?_
      refine x_goto C (tgt := 96) (dk ddX11_text 49 rfl) (by decide) ?_
      exact x_iret C rfl ⟨rfl, rfl, rfl, rfl⟩ rfl rfl (dk ddX11_text 53 rfl)
  · refine x_aload_n C (dk ddX11_text 26 rfl) rfl ?_
    refine x_geti C flX11_336 rfl (hM.lt (j := 0) (by decide)) hM.2.1 (dk ddX11_text 27 rfl) ?_
    rw [show ((ax_TI m (ax_nx (I (m + 18)) (c - u.1) u.1) u.2.1 0 u.2.2.1 u.2.2.2 I) m 30) = nI (ax_nx (I (m + 18)) (c - u.1) u.1) from ax_TI_30]
    refine x_aload_n C (dk ddX11_text 28 rfl) rfl ?_
    refine x_geti C flX11_333 rfl (hM.lt (j := 0) (by decide)) hM.2.1 (dk ddX11_text 29 rfl) ?_
    rw [show ((ax_TI m (ax_nx (I (m + 18)) (c - u.1) u.1) u.2.1 0 u.2.2.1 u.2.2.2 I) m 29) = nI c from ((ax_TI_m (by decide)).trans hc)]
    refine x_icmp_ne_n C (tgt := 61) (dk ddX11_text 30 rfl) (by decide) (by omega) (by omega) (fun h54 => ?_) (fun h54 => ?_)
    · refine x_iconst C (v := nI 0) (dk ddX11_text 33 rfl) (by decide) ?_
      refine x_istore_n C (lv' := [(2, .int (nI 0)), (0, .ref m), (1, .int (nI f))]) (dk ddX11_text 34 rfl) (by decide) rfl ?_
      refine x_aload_n C (dk ddX11_text 35 rfl) rfl ?_
      refine x_geti C flX11_336 rfl (hM.lt (j := 0) (by decide)) hM.2.1 (dk ddX11_text 36 rfl) ?_
      rw [show ((ax_TI m (ax_nx (I (m + 18)) (c - u.1) u.1) u.2.1 0 u.2.2.1 u.2.2.2 I) m 30) = nI (ax_nx (I (m + 18)) (c - u.1) u.1) from ax_TI_30]
      refine x_istore_n C (lv' := [(3, .int (nI (ax_nx (I (m + 18)) (c - u.1) u.1))), (2, .int (nI 0)), (0, .ref m), (1, .int (nI f))]) (dk ddX11_text 37 rfl) (by decide) rfl ?_
      refine x_aload_n C (dk ddX11_text 38 rfl) rfl ?_
      refine x_iconst C (v := nI 0) (dk ddX11_text 39 rfl) (by decide) ?_
      refine x_puti C flX11_333 fw11 rfl rfl (hM.lt (j := 0) (by decide)) hM.2.1 rfl rfl (dk ddX11_text 40 rfl) ?_
      refine x_aload_n C (dk ddX11_text 41 rfl) rfl ?_
      refine x_geti C flX11_339 rfl (hM.lt (j := 0) (by decide)) hM.2.1 (dk ddX11_text 42 rfl) ?_
      rw [show ((ax_u (ax_TI m (ax_nx (I (m + 18)) (c - u.1) u.1) u.2.1 0 u.2.2.1 u.2.2.2 I) m 29 (nI 0)) m 33) = ax_b u.2.2.1 from ((ax_u_nj (by decide)).trans ax_TI_33)]
      refine x_if_ne_b C (tgt := 84) (dk ddX11_text 43 rfl) (by decide) (fun h77 => ?_) (fun h77 => ?_)
      · refine x_bipush C (v := (-100)) (dk ddX11_text 46 rfl) (by decide) ?_
        refine x_iload_n C (dk ddX11_text 47 rfl) rfl ?_
        refine x_isub C (dk ddX11_text 48 rfl) ?_
        refine x_goto C (tgt := 96) (dk ddX11_text 49 rfl) (by decide) ?_
        exact x_iret C rfl ⟨rfl, rfl, rfl, rfl⟩ rfl rfl (dk ddX11_text 53 rfl)
      · refine x_iload_n C (dk ddX11_text 44 rfl) rfl ?_
        refine x_if_ne_n C (tgt := 91) (dk ddX11_text 45 rfl) (by decide) (by decide) (fun h_ => absurd h_ (by decide)) (fun _ => ?_)
        refine x_bipush C (v := (-100)) (dk ddX11_text 46 rfl) (by decide) ?_
        refine x_iload_n C (dk ddX11_text 47 rfl) rfl ?_
        refine x_isub C (dk ddX11_text 48 rfl) ?_
        refine x_goto C (tgt := 96) (dk ddX11_text 49 rfl) (by decide) ?_
        exact x_iret C rfl ⟨rfl, rfl, rfl, rfl⟩ rfl rfl (dk ddX11_text 53 rfl)
    · refine x_iconst C (v := nI 1) (dk ddX11_text 31 rfl) (by decide) ?_
      refine x_goto C (tgt := 62) (dk ddX11_text 32 rfl) (by decide) ?_
      refine x_istore_n C (lv' := [(2, .int (nI 1)), (0, .ref m), (1, .int (nI f))]) (dk ddX11_text 34 rfl) (by decide) rfl ?_
      refine x_aload_n C (dk ddX11_text 35 rfl) rfl ?_
      refine x_geti C flX11_336 rfl (hM.lt (j := 0) (by decide)) hM.2.1 (dk ddX11_text 36 rfl) ?_
      rw [show ((ax_TI m (ax_nx (I (m + 18)) (c - u.1) u.1) u.2.1 0 u.2.2.1 u.2.2.2 I) m 30) = nI (ax_nx (I (m + 18)) (c - u.1) u.1) from ax_TI_30]
      refine x_istore_n C (lv' := [(3, .int (nI (ax_nx (I (m + 18)) (c - u.1) u.1))), (2, .int (nI 1)), (0, .ref m), (1, .int (nI f))]) (dk ddX11_text 37 rfl) (by decide) rfl ?_
      refine x_aload_n C (dk ddX11_text 38 rfl) rfl ?_
      refine x_iconst C (v := nI 0) (dk ddX11_text 39 rfl) (by decide) ?_
      refine x_puti C flX11_333 fw11 rfl rfl (hM.lt (j := 0) (by decide)) hM.2.1 rfl rfl (dk ddX11_text 40 rfl) ?_
      refine x_aload_n C (dk ddX11_text 41 rfl) rfl ?_
      refine x_geti C flX11_339 rfl (hM.lt (j := 0) (by decide)) hM.2.1 (dk ddX11_text 42 rfl) ?_
      rw [show ((ax_u (ax_TI m (ax_nx (I (m + 18)) (c - u.1) u.1) u.2.1 0 u.2.2.1 u.2.2.2 I) m 29 (nI 0)) m 33) = ax_b u.2.2.1 from ((ax_u_nj (by decide)).trans ax_TI_33)]
      refine x_if_ne_b C (tgt := 84) (dk ddX11_text 43 rfl) (by decide) (fun h77 => ?_) (fun h77 => ?_)
      · refine x_bipush C (v := (-100)) (dk ddX11_text 46 rfl) (by decide) ?_
        refine x_iload_n C (dk ddX11_text 47 rfl) rfl ?_
        refine x_isub C (dk ddX11_text 48 rfl) ?_
        refine x_goto C (tgt := 96) (dk ddX11_text 49 rfl) (by decide) ?_
        exact x_iret C rfl ⟨rfl, rfl, rfl, rfl⟩ rfl rfl (dk ddX11_text 53 rfl)
      · refine x_iload_n C (dk ddX11_text 44 rfl) rfl ?_
        refine x_if_ne_n C (tgt := 91) (dk ddX11_text 45 rfl) (by decide) (by decide) (fun _ => ?_) (fun h_ => absurd h_ (by decide))
        exfalso
        rcases hw with h | h
        · rw [h] at h77; cases h77
        · exact h ⟨h43, h54⟩
