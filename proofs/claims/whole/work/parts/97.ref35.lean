/-! ===== the reference: a text that is right ===== -/
set_option maxRecDepth 20000 in
/-- text, right -/
theorem k_X11_text_right (l : Launch) (D : va_G) (T : Nat → ClassId) (o d : Nat) (G : ax_G) (I : ax_I) (L : ax_L) (m c n f c3 a b : Nat) (u : ax_TS) (e dp mf mt : Nat → Nat) (gn gc : Nat → Nat) (S : Nat → Int32) (hM : ax_Mod G m) (hS : I (m + 1) = S) (hgn : ∀ g, g < 6 → S (14 * g) = nI (gn g) ∧ gn g ≤ 3) (hgc : ∀ g, g < 6 → S (14 * g + 1) = nI (gc g) ∧ gc g ≤ 4) (hkN : ∀ g t, g < 6 → ax_N1k m g t (gn g) (gc g) S) (hf : f < 8) (hc3 : I m 3 = nI c3) (hc2 : c3 ≤ 20) (hc : I m 29 = nI c) (hc1 : c ≤ 100) (hX : ax_tx (I (m + 18)) c n 3 0 (0, 0, false, I (m + 19)) = some u) (hwr : u.2.2.1 = false) (hvl : ax_vl (I (m + 18)) c (ax_nx (I (m + 18)) (c - u.1) u.1) = -1) (hhe : ax_nx (I (m + 18)) (c - u.1) u.1 = c) (hce : ∀ k, k < u.2.1 → u.2.2.2 k = nI (e k)) (he : ∀ k, e k ≤ 43) (hdp0 : dp 0 = 0) (hdp : ∀ k, k < u.2.1 → dp k ≤ 60 ∧ (e k < 8 → dp (k + 1) = dp k + 1 ∧ dp k < 60) ∧ (8 ≤ e k → e k < 40 → dp (k + 1) = dp k ∧ 1 ≤ dp k) ∧ (40 ≤ e k → e k < 43 → dp (k + 1) + 1 = dp k ∧ 2 ≤ dp k) ∧ (43 ≤ e k → dp (k + 1) = dp k ∧ 1 ≤ dp k)) (hmpc : (ax_amv (ax_u (ax_TI m (ax_nx (I (m + 18)) (c - u.1) u.1) u.2.1 0 u.2.2.1 u.2.2.2 I) m 29 (nI 0)) m u.2.1 e) = true → ∀ k, k < u.2.1 → e k < 8 → S (84 + 11 * e k) = nI (mf (e k)) ∧ mf (e k) < 6 ∧ S (84 + 11 * e k + 1) = nI (mt (e k)) ∧ mt (e k) < 6) (hno : ∀ k, k < u.2.1 → 8 ≤ e k → 20 ≤ e k) (hab : (ax_amv (ax_u (ax_TI m (ax_nx (I (m + 18)) (c - u.1) u.1) u.2.1 0 u.2.2.1 u.2.2.2 I) m 29 (nI 0)) m u.2.1 e) = true → (ax_gtv (ax_u (ax_TI m (ax_nx (I (m + 18)) (c - u.1) u.1) u.2.1 0 u.2.2.1 u.2.2.2 I) m 29 (nI 0)) m u.2.1 e dp S) = true → (ax_ttv (ax_gtI (ax_u (ax_TI m (ax_nx (I (m + 18)) (c - u.1) u.1) u.2.1 0 u.2.2.1 u.2.2.2 I) m 29 (nI 0)) m u.2.1 e dp S) L m u.2.1 e dp mf mt gn S) = true → (ax_ttI (ax_gtI (ax_u (ax_TI m (ax_nx (I (m + 18)) (c - u.1) u.1) u.2.1 0 u.2.2.1 u.2.2.2 I) m 29 (nI 0)) m u.2.1 e dp S) L m u.2.1 e dp mf mt gn S) (m + 20) 0 = nI a ∧ a < 6 ∧ (ax_ttI (ax_gtI (ax_u (ax_TI m (ax_nx (I (m + 18)) (c - u.1) u.1) u.2.1 0 u.2.2.1 u.2.2.2 I) m 29 (nI 0)) m u.2.1 e dp S) L m u.2.1 e dp mf mt gn S) (m + 21) 0 = nI b ∧ b < 6) (hd : 17 ≤ d) : ax_Con l D T o yX11_text cX11_text 4 (some .int) d 0 0 [.ref m, .int (nI f)] G I L (fun v G' I' L' => v = some (.int (ax_bcv (ax_u (ax_TI m (ax_nx (I (m + 18)) (c - u.1) u.1) u.2.1 0 u.2.2.1 u.2.2.2 I) m 29 (nI 0)) L m u.2.1 a b e dp mf mt gn gc S)) ∧ G = G' ∧ ax_bcI (ax_u (ax_TI m (ax_nx (I (m + 18)) (c - u.1) u.1) u.2.1 0 u.2.2.1 u.2.2.2 I) m 29 (nI 0)) L m f c3 u.2.1 a b e dp mf mt gn gc S = I' ∧ ax_bcL (ax_u (ax_TI m (ax_nx (I (m + 18)) (c - u.1) u.1) u.2.1 0 u.2.2.1 u.2.2.2 I) m 29 (nI 0)) L m u.2.1 a b e dp mf mt gn gc S = L') := by
  refine ax_enter (by decide +kernel) (Nat.le_of_ble_eq_true rfl) ?_
  intro p_ e_ s_ m_ args_ below_ meth_ c_ C _
  refine x_lvs (lv' := [(0, .ref m), (1, .int (nI f))]) rfl ?_
  refine x_iload_n C (dk ddX11_text 0 rfl) rfl ?_
  refine x_i2l_n C (dk ddX11_text 1 rfl) (by omega) ?_
  refine x_lconst C (v := 0) (dk ddX11_text 2 rfl) (by decide) ?_
  refine x_ldc2 C klX11_127 (dk ddX11_text 3 rfl) ?_
  refine x_callS C (As := [.long (lN f), .long 0, .long 7]) (k_X11_in l D T o (d - 1) G I L (lN f) 0 7) mlX11_123 ⟨by show d - 1 + 1 ≤ d; omega, by show 40 * (d - 1 + 1) ≤ 40 * d; omega⟩ ⟨Nat.le_refl _, Nat.le_refl _⟩ rfl (Nat.le_of_ble_eq_true rfl) (dk ddX11_text 4 rfl) ?_
  rintro v_ G_ I_ L_ ⟨rfl, rfl, rfl, rfl⟩
  rw [show (ax_in3 (lN f) 0 7) = true from ax_in3_okL (h := 7) (by omega) (by decide)]
  refine x_if_ne_b C (tgt := 14) (dk ddX11_text 5 rfl) (by decide) (fun _ => ?_) (fun h_ => absurd h_ (by decide))
  refine x_aload_n C (dk ddX11_text 8 rfl) rfl ?_
  refine x_iconst C (v := nI 0) (dk ddX11_text 9 rfl) (by decide) ?_
  refine x_puti C flX11_336 fw11 rfl rfl (hM.lt (j := 0) (by decide)) hM.2.1 rfl rfl (dk ddX11_text 10 rfl) ?_
  refine x_aload_n C (dk ddX11_text 11 rfl) rfl ?_
  refine x_iconst C (v := nI 0) (dk ddX11_text 12 rfl) (by decide) ?_
  refine x_puti C flX11_346 fw11 rfl rfl (hM.lt (j := 0) (by decide)) hM.2.1 rfl rfl (dk ddX11_text 13 rfl) ?_
  refine x_aload_n C (dk ddX11_text 14 rfl) rfl ?_
  refine x_iconst C (v := nI 0) (dk ddX11_text 15 rfl) (by decide) ?_
  refine x_puti C flX11_352 fw11 rfl rfl (hM.lt (j := 0) (by decide)) hM.2.1 rfl rfl (dk ddX11_text 16 rfl) ?_
  refine x_aload_n C (dk ddX11_text 17 rfl) rfl ?_
  refine x_iconst C (v := nI 0) (dk ddX11_text 18 rfl) (by decide) ?_
  refine x_puti C flX11_339 fw11 rfl rfl (hM.lt (j := 0) (by decide)) hM.2.1 rfl rfl (dk ddX11_text 19 rfl) ?_
  rw [ax_TI_0]
  refine x_aload_n C (dk ddX11_text 20 rfl) rfl ?_
  refine x_callV C (ci := 11) (As := []) ((k_X11_texts l D T o G I L m c hM hc hc1 (n + 1) n (by omega)).2.2 (d - 1) 0 (by omega) (by omega) (0, 0, false, I (m + 19)) u (Nat.zero_le _) (Nat.le_refl _) hX) mlX11_358 rfl rfl (hM.lt (j := 0) (by decide)) hM.2.1 ⟨by show d - 1 + 1 ≤ d; omega, by show 40 * (d - 1 + 1) ≤ 40 * d; omega⟩ ⟨Nat.le_refl _, Nat.le_refl _⟩ rfl (Nat.le_of_ble_eq_true rfl) (dk ddX11_text 21 rfl) ?_
  rintro v_ G_ I_ L_ ⟨rfl, rfl, rfl, rfl⟩
  have g_ := ax_tx_gr (s := (0, 0, false, I (m + 19))) (Nat.zero_le _) hX
  have g1_ := g_.2.1
  have g2_ : u.2.1 + 0 ≤ 0 + u.1 := g_.2.2
  refine x_aload_n C (dk ddX11_text 22 rfl) rfl ?_
  refine x_callV C (ci := 11) (As := []) (k_X11_next l D T o (d - 1) G I L m c u.1 u.2.1 0 u.2.2.1 u.2.2.2 hM hc hc1 (by omega) (by omega)) mlX11_343 rfl rfl (hM.lt (j := 0) (by decide)) hM.2.1 ⟨by show d - 1 + 1 ≤ d; omega, by show 40 * (d - 1 + 1) ≤ 40 * d; omega⟩ ⟨Nat.le_refl _, Nat.le_refl _⟩ rfl (Nat.le_of_ble_eq_true rfl) (dk ddX11_text 23 rfl) ?_
  rintro v_ G_ I_ L_ ⟨rfl, rfl, rfl, rfl⟩
  have hx39_ := ax_nx_le (I (m + 18)) (c - u.1) u.1
  refine x_iconst C (v := (-1)) (dk ddX11_text 24 rfl) (by decide) ?_
  refine x_icmp_ne C (tgt := 61) (dk ddX11_text 25 rfl) (by decide) (fun h43 => ?_) (fun h43 => ?_)
  · exfalso
    exact h43 hvl
  · refine x_aload_n C (dk ddX11_text 26 rfl) rfl ?_
    refine x_geti C flX11_336 rfl (hM.lt (j := 0) (by decide)) hM.2.1 (dk ddX11_text 27 rfl) ?_
    rw [show ((ax_TI m (ax_nx (I (m + 18)) (c - u.1) u.1) u.2.1 0 u.2.2.1 u.2.2.2 I) m 30) = nI (ax_nx (I (m + 18)) (c - u.1) u.1) from ax_TI_30]
    refine x_aload_n C (dk ddX11_text 28 rfl) rfl ?_
    refine x_geti C flX11_333 rfl (hM.lt (j := 0) (by decide)) hM.2.1 (dk ddX11_text 29 rfl) ?_
    rw [show ((ax_TI m (ax_nx (I (m + 18)) (c - u.1) u.1) u.2.1 0 u.2.2.1 u.2.2.2 I) m 29) = nI c from ((ax_TI_m (by decide)).trans hc)]
    refine x_icmp_ne_n C (tgt := 61) (dk ddX11_text 30 rfl) (by decide) (by omega) (by omega) (fun h54 => ?_) (fun h54 => ?_)
    · exfalso
      exact h54 hhe
    · refine x_iconst C (v := nI 1) (dk ddX11_text 31 rfl) (by decide) ?_
      refine x_goto C (tgt := 62) (dk ddX11_text 32 rfl) (by decide) ?_
      refine x_istore_n C (lv' := [(2, .int (nI 1)), (0, .ref m), (1, .int (nI f))]) (dk ddX11_text 34 rfl) (by decide) rfl ?_
      refine x_aload_n C (dk ddX11_text 35 rfl) rfl ?_
      refine x_geti C flX11_336 rfl (hM.lt (j := 0) (by decide)) hM.2.1 (dk ddX11_text 36 rfl) ?_
      rw [show ((ax_TI m (ax_nx (I (m + 18)) (c - u.1) u.1) u.2.1 0 u.2.2.1 u.2.2.2 I) m 30) = nI (ax_nx (I (m + 18)) (c - u.1) u.1) from ax_TI_30]
      refine x_istore_n C (lv' := [(3, .int (nI (ax_nx (I (m + 18)) (c - u.1) u.1))), (2, .int (nI 1)), (0, .ref m), (1, .int (nI f))]) (dk ddX11_text 37 rfl) (by decide) rfl ?_
      refine x_aload_n C (dk ddX11_text 38 rfl) rfl ?_
      refine x_iconst C (v := nI 0) (dk ddX11_text 39 rfl) (by decide) ?_
      refine x_puti C flX11_333 fw11 rfl rfl (hM.lt (j := 0) (by decide)) hM.2.1 rfl rfl (dk ddX11_text 40 rfl) ?_
      refine x_aload_n C (dk ddX11_text 41 rfl) rfl ?_
      refine x_geti C flX11_339 rfl (hM.lt (j := 0) (by decide)) hM.2.1 (dk ddX11_text 42 rfl) ?_
      rw [show ((ax_u (ax_TI m (ax_nx (I (m + 18)) (c - u.1) u.1) u.2.1 0 u.2.2.1 u.2.2.2 I) m 29 (nI 0)) m 33) = ax_b u.2.2.1 from ((ax_u_nj (by decide)).trans ax_TI_33)]
      refine x_if_ne_b C (tgt := 84) (dk ddX11_text 43 rfl) (by decide) (fun h77 => ?_) (fun h77 => ?_)
      · exfalso
        rw [hwr] at h77; cases h77
      · refine x_iload_n C (dk ddX11_text 44 rfl) rfl ?_
        refine x_if_ne_n C (tgt := 91) (dk ddX11_text 45 rfl) (by decide) (by decide) (fun _ => ?_) (fun h_ => absurd h_ (by decide))
        refine x_aload_n C (dk ddX11_text 50 rfl) rfl ?_
        refine x_iload_n C (dk ddX11_text 51 rfl) rfl ?_
        refine x_callV C (ci := 11) (As := [.int (nI f)]) (k_X11_becomes l D T o (d - 1) G (ax_u (ax_TI m (ax_nx (I (m + 18)) (c - u.1) u.1) u.2.1 0 u.2.2.1 u.2.2.2 I) m 29 (nI 0)) L m f c3 u.2.1 a b e dp mf mt gn gc S hM ((ax_u_ne (by omega)).trans ((ax_TI_ne (by omega) (by omega)).trans hS)) hgn hgc hkN hf ((ax_u_nj (by decide)).trans ((ax_TI_m (by decide)).trans hc3)) hc2 ((ax_u_nj (by decide)).trans ax_TI_31) (by omega) (fun k hk => (congrFun ((ax_u_ne (by omega)).trans ax_TI_c) k).trans (hce k hk)) he hdp0 hdp hmpc hno hab (by omega)) mlX11_391 rfl rfl (hM.lt (j := 0) (by decide)) hM.2.1 ⟨by show d - 1 + 1 ≤ d; omega, by show 40 * (d - 1 + 1) ≤ 40 * d; omega⟩ ⟨Nat.le_refl _, Nat.le_refl _⟩ rfl (Nat.le_of_ble_eq_true rfl) (dk ddX11_text 52 rfl) ?_
        rintro v_ G_ I_ L_ ⟨rfl, rfl, rfl, rfl⟩
        exact x_iret C rfl ⟨rfl, rfl, rfl, rfl⟩ rfl rfl (dk ddX11_text 53 rfl)
