/-! ===== the reference: one, chain, sum: the walks ===== -/
set_option maxRecDepth 20000 in
/-- X11_one over what it calls -/
theorem k_X11_one_of (l : Launch) (D : va_G) (T : Nat → ClassId) (o d : Nat) (G : ax_G) (I : ax_I) (L : ax_L) (m c n h k op : Nat) (wr : Bool) (cd : Nat → Int32) (u : ax_TS) (hM : ax_Mod G m) (hc : I m 29 = nI c) (hc1 : c ≤ 100) (hh : h ≤ c) (hk : k ≤ h) (hop : op ≤ 4) (hsum : op < 4 → ∀ (s v : ax_TS), s.1 ≤ c → s.2.1 ≤ s.1 → ax_tx (I (m + 18)) c n 3 (op + 1) s = some v → ax_Con l D T o yX11_sum cX11_sum 3 none (d - 1) 0 0 [.ref m] G (ax_TI m s.1 s.2.1 (op + 1) s.2.2.1 s.2.2.2 I) L (fun w G' I' L' => w = none ∧ G = G' ∧ ax_TI m v.1 v.2.1 (op + 1) v.2.2.1 v.2.2.2 I = I' ∧ L = L')) (hX : ax_tx (I (m + 18)) c (n + 1) 0 op (h, k, wr, cd) = some u) (hd : 2 ≤ d) : ax_Con l D T o yX11_one cX11_one 4 none d 0 0 [.ref m] G (ax_TI m h k op wr cd I) L (fun v G' I' L' => v = none ∧ G = G' ∧ ax_TI m u.1 u.2.1 op u.2.2.1 u.2.2.2 I = I' ∧ L = L') := by
  refine ax_enter (by decide +kernel) (Nat.le_of_ble_eq_true rfl) ?_
  intro p_ e_ s_ m_ args_ below_ meth_ c_ C _
  refine x_lvs (lv' := [(0, .ref m)]) rfl ?_
  have hX1 : (bif ax_1t (I (m + 18)) c h then (ax_1b (I (m + 18)) c op (ax_tx (I (m + 18)) c n 3 (op + 1)) (ax_n1 (I (m + 18)) c h + 1) (k, wr, cd)).map (ax_lay (nI 20 + ax_1m (I (m + 18)) c h)) else ax_1b (I (m + 18)) c op (ax_tx (I (m + 18)) c n 3 (op + 1)) (ax_n1 (I (m + 18)) c h + 0) (k, wr, cd)) = some u := hX
  refine x_aload_n C (dk ddX11_one 0 rfl) rfl ?_
  refine x_callV C (ci := 11) (As := []) (k_X11_next l D T o (d - 1) G I L m c h k op wr cd hM hc hc1 (by omega) (by omega)) mlX11_343 rfl rfl (hM.lt (j := 0) (by decide)) hM.2.1 ⟨by show d - 1 + 1 ≤ d; omega, by show 40 * (d - 1 + 1) ≤ 40 * d; omega⟩ ⟨Nat.le_refl _, Nat.le_refl _⟩ rfl (Nat.le_of_ble_eq_true rfl) (dk ddX11_one 1 rfl) ?_
  rintro v_ G_ I_ L_ ⟨rfl, rfl, rfl, rfl⟩
  have hx1_ := ax_nx_le (I (m + 18)) (c - h) h
  refine x_bipush C (v := nI 48) (dk ddX11_one 2 rfl) (by decide) ?_
  refine x_isub C (dk ddX11_one 3 rfl) ?_
  refine x_istore_n C (lv' := [(1, .int ((ax_vl (I (m + 18)) c (ax_nx (I (m + 18)) (c - h) h)) - (nI 48))), (0, .ref m)]) (dk ddX11_one 4 rfl) (by decide) rfl ?_
  refine x_iload_n C (dk ddX11_one 5 rfl) rfl ?_
  refine x_i2l C (dk ddX11_one 6 rfl) ?_
  refine x_lconst C (v := 0) (dk ddX11_one 7 rfl) (by decide) ?_
  refine x_ldc2 C klX11_220 (dk ddX11_one 8 rfl) ?_
  refine x_callS C (As := [.long (((ax_vl (I (m + 18)) c (ax_nx (I (m + 18)) (c - h) h)) - (nI 48)).toInt64), .long 0, .long 9]) (k_X11_in l D T o (d - 1) G (ax_TI m (ax_nx (I (m + 18)) (c - h) h) k op wr cd I) L (((ax_vl (I (m + 18)) c (ax_nx (I (m + 18)) (c - h) h)) - (nI 48)).toInt64) 0 9) mlX11_123 ⟨by show d - 1 + 1 ≤ d; omega, by show 40 * (d - 1 + 1) ≤ 40 * d; omega⟩ ⟨Nat.le_refl _, Nat.le_refl _⟩ rfl (Nat.le_of_ble_eq_true rfl) (dk ddX11_one 9 rfl) ?_
  rintro v_ G_ I_ L_ ⟨rfl, rfl, rfl, rfl⟩
  refine x_istore_n C (lv' := [(2, .int (ax_b (ax_in3 (((ax_vl (I (m + 18)) c (ax_nx (I (m + 18)) (c - h) h)) - (nI 48)).toInt64) 0 9))), (1, .int ((ax_vl (I (m + 18)) c (ax_nx (I (m + 18)) (c - h) h)) - (nI 48))), (0, .ref m)]) (dk ddX11_one 10 rfl) (by decide) rfl ?_
  refine x_aload_n C (dk ddX11_one 11 rfl) rfl ?_
  refine x_dup C (dk ddX11_one 12 rfl) rfl ?_
  refine x_geti C flX11_336 rfl (hM.lt (j := 0) (by decide)) hM.2.1 (dk ddX11_one 13 rfl) ?_
  rw [show ((ax_TI m (ax_nx (I (m + 18)) (c - h) h) k op wr cd I) m 30) = nI (ax_nx (I (m + 18)) (c - h) h) from ax_TI_30]
  refine x_iload_n C (dk ddX11_one 14 rfl) rfl ?_
  refine x_if_eq_b C (tgt := 31) (dk ddX11_one 15 rfl) (by decide) (fun h24 => ?_) (fun h24 => ?_)
  · rw [show ax_1t (I (m + 18)) c h = false from h24] at hX1
    have hz := hX1
    refine x_iconst C (v := nI 0) (dk ddX11_one 18 rfl) (by decide) ?_
    refine x_iadd_n C (dk ddX11_one 19 rfl) ?_
    refine x_puti C flX11_336 fw11 rfl rfl (hM.lt (j := 0) (by decide)) hM.2.1 rfl rfl (dk ddX11_one 20 rfl) ?_
    rw [ax_TI_u30]
    refine x_aload_n C (dk ddX11_one 21 rfl) rfl ?_
    refine x_callV C (ci := 11) (As := []) (k_X11_next l D T o (d - 1) G I L m c (ax_nx (I (m + 18)) (c - h) h + 0) k op wr cd hM hc hc1 (by omega) (by omega)) mlX11_343 rfl rfl (hM.lt (j := 0) (by decide)) hM.2.1 ⟨by show d - 1 + 1 ≤ d; omega, by show 40 * (d - 1 + 1) ≤ 40 * d; omega⟩ ⟨Nat.le_refl _, Nat.le_refl _⟩ rfl (Nat.le_of_ble_eq_true rfl) (dk ddX11_one 22 rfl) ?_
    rintro v_ G_ I_ L_ ⟨rfl, rfl, rfl, rfl⟩
    have hx37_ := ax_nx_le (I (m + 18)) (c - (ax_nx (I (m + 18)) (c - h) h + 0)) (ax_nx (I (m + 18)) (c - h) h + 0)
    refine x_bipush C (v := nI 97) (dk ddX11_one 23 rfl) (by decide) ?_
    refine x_isub C (dk ddX11_one 24 rfl) ?_
    refine x_istore_n C (lv' := [(3, .int ((ax_vl (I (m + 18)) c (ax_nx (I (m + 18)) (c - (ax_nx (I (m + 18)) (c - h) h + 0)) (ax_nx (I (m + 18)) (c - h) h + 0))) - (nI 97))), (2, .int (ax_b (ax_in3 (((ax_vl (I (m + 18)) c (ax_nx (I (m + 18)) (c - h) h)) - (nI 48)).toInt64) 0 9))), (1, .int ((ax_vl (I (m + 18)) c (ax_nx (I (m + 18)) (c - h) h)) - (nI 48))), (0, .ref m)]) (dk ddX11_one 25 rfl) (by decide) rfl ?_
    refine x_iload_n C (dk ddX11_one 26 rfl) rfl ?_
    refine x_i2l C (dk ddX11_one 27 rfl) ?_
    refine x_lconst C (v := 0) (dk ddX11_one 28 rfl) (by decide) ?_
    refine x_ldc2 C klX11_127 (dk ddX11_one 29 rfl) ?_
    refine x_callS C (As := [.long (((ax_vl (I (m + 18)) c (ax_nx (I (m + 18)) (c - (ax_nx (I (m + 18)) (c - h) h + 0)) (ax_nx (I (m + 18)) (c - h) h + 0))) - (nI 97)).toInt64), .long 0, .long 7]) (k_X11_in l D T o (d - 1) G (ax_TI m (ax_nx (I (m + 18)) (c - (ax_nx (I (m + 18)) (c - h) h + 0)) (ax_nx (I (m + 18)) (c - h) h + 0)) k op wr cd I) L (((ax_vl (I (m + 18)) c (ax_nx (I (m + 18)) (c - (ax_nx (I (m + 18)) (c - h) h + 0)) (ax_nx (I (m + 18)) (c - h) h + 0))) - (nI 97)).toInt64) 0 7) mlX11_123 ⟨by show d - 1 + 1 ≤ d; omega, by show 40 * (d - 1 + 1) ≤ 40 * d; omega⟩ ⟨Nat.le_refl _, Nat.le_refl _⟩ rfl (Nat.le_of_ble_eq_true rfl) (dk ddX11_one 30 rfl) ?_
    rintro v_ G_ I_ L_ ⟨rfl, rfl, rfl, rfl⟩
    refine x_if_eq_b C (tgt := 74) (dk ddX11_one 31 rfl) (by decide) (fun h53 => ?_) (fun h53 => ?_)
    · unfold ax_1b at hz
      rw [show ax_in3 (ax_1f (I (m + 18)) c (ax_nx (I (m + 18)) (c - h) h + 0)).toInt64 0 7 = false from h53] at hz
      refine x_aload_n C (dk ddX11_one 42 rfl) rfl ?_
      refine x_geti C flX11_352 rfl (hM.lt (j := 0) (by decide)) hM.2.1 (dk ddX11_one 43 rfl) ?_
      rw [show ((ax_TI m (ax_nx (I (m + 18)) (c - (ax_nx (I (m + 18)) (c - h) h + 0)) (ax_nx (I (m + 18)) (c - h) h + 0)) k op wr cd I) m 32) = nI op from ax_TI_32]
      refine x_iconst C (v := nI 4) (dk ddX11_one 44 rfl) (by decide) ?_
      refine x_icmp_ge_n C (tgt := 143) (dk ddX11_one 45 rfl) (by decide) (by omega) (by decide) (fun h79 => ?_) (fun h79 => ?_)
      · rw [decide_eq_false (show ¬ op < 4 from by omega)] at hz
        replace hz := Option.some.inj hz
        refine x_aload_n C (dk ddX11_one 77 rfl) rfl ?_
        refine x_iconst C (v := nI 1) (dk ddX11_one 78 rfl) (by decide) ?_
        refine x_puti C flX11_339 fw11 rfl rfl (hM.lt (j := 0) (by decide)) hM.2.1 rfl rfl (dk ddX11_one 79 rfl) ?_
        rw [show nI 1 = ax_b true from rfl, ax_TI_u33]
        have ez : u = (ax_nx (I (m + 18)) (c - (ax_nx (I (m + 18)) (c - h) h + 0)) (ax_nx (I (m + 18)) (c - h) h + 0), k, true, cd) := by
          exact hz.symm
        subst ez
        refine x_iload_n C (dk ddX11_one 80 rfl) rfl ?_
        refine x_if_eq_b C (tgt := 160) (dk ddX11_one 81 rfl) (by decide) (fun h149 => ?_) (fun h149 => ?_)
        · exact x_vret C rfl ⟨rfl, rfl, rfl, rfl⟩ rfl rfl (dk ddX11_one 87 rfl)
        · exfalso
          rw [h24] at h149; cases h149
      · rw [decide_eq_true (show op < 4 from by omega)] at hz
        refine x_aload_n C (dk ddX11_one 46 rfl) rfl ?_
        refine x_bipush C (v := nI 40) (dk ddX11_one 47 rfl) (by decide) ?_
        refine x_callV C (ci := 11) (As := [.int (nI 40)]) (k_X11_takes l D T o (d - 1) G I L m c (ax_nx (I (m + 18)) (c - (ax_nx (I (m + 18)) (c - h) h + 0)) (ax_nx (I (m + 18)) (c - h) h + 0)) k op wr cd (nI 40) hM hc hc1 (by omega) (by omega)) mlX11_355 rfl rfl (hM.lt (j := 0) (by decide)) hM.2.1 ⟨by show d - 1 + 1 ≤ d; omega, by show 40 * (d - 1 + 1) ≤ 40 * d; omega⟩ ⟨Nat.le_refl _, Nat.le_refl _⟩ rfl (Nat.le_of_ble_eq_true rfl) (dk ddX11_one 48 rfl) ?_
        rintro v_ G_ I_ L_ ⟨rfl, rfl, rfl, rfl⟩
        have hy85_ := ax_tkh_le (I (m + 18)) c (h := ax_nx (I (m + 18)) (c - (ax_nx (I (m + 18)) (c - h) h + 0)) (ax_nx (I (m + 18)) (c - h) h + 0)) wr (nI 40) (by omega)
        have hy85a_ := hy85_.1
        have hy85b_ := hy85_.2.1 (by decide)
        refine x_if_eq_b C (tgt := 143) (dk ddX11_one 49 rfl) (by decide) (fun h88 => ?_) (fun h88 => ?_)
        · rw [show ax_tk (I (m + 18)) c (ax_n1 (I (m + 18)) c (ax_nx (I (m + 18)) (c - h) h + 0)) wr (nI 40) = false from h88] at hz
          replace hz := Option.some.inj hz
          refine x_aload_n C (dk ddX11_one 77 rfl) rfl ?_
          refine x_iconst C (v := nI 1) (dk ddX11_one 78 rfl) (by decide) ?_
          refine x_puti C flX11_339 fw11 rfl rfl (hM.lt (j := 0) (by decide)) hM.2.1 rfl rfl (dk ddX11_one 79 rfl) ?_
          rw [show nI 1 = ax_b true from rfl, ax_TI_u33]
          have ez : u = (ax_tkh (I (m + 18)) c (ax_nx (I (m + 18)) (c - (ax_nx (I (m + 18)) (c - h) h + 0)) (ax_nx (I (m + 18)) (c - h) h + 0)) wr (nI 40), k, true, cd) := by
            exact hz.symm
          subst ez
          refine x_iload_n C (dk ddX11_one 80 rfl) rfl ?_
          refine x_if_eq_b C (tgt := 160) (dk ddX11_one 81 rfl) (by decide) (fun h149 => ?_) (fun h149 => ?_)
          · exact x_vret C rfl ⟨rfl, rfl, rfl, rfl⟩ rfl rfl (dk ddX11_one 87 rfl)
          · exfalso
            rw [h24] at h149; cases h149
        · rw [show ax_tk (I (m + 18)) c (ax_n1 (I (m + 18)) c (ax_nx (I (m + 18)) (c - h) h + 0)) wr (nI 40) = true from h88] at hz
          obtain ⟨y, hy, hyz⟩ := Option.map_eq_some_iff.mp hz
          refine x_aload_n C (dk ddX11_one 50 rfl) rfl ?_
          refine x_dup C (dk ddX11_one 51 rfl) rfl ?_
          refine x_geti C flX11_352 rfl (hM.lt (j := 0) (by decide)) hM.2.1 (dk ddX11_one 52 rfl) ?_
          rw [show ((ax_TI m (ax_tkh (I (m + 18)) c (ax_nx (I (m + 18)) (c - (ax_nx (I (m + 18)) (c - h) h + 0)) (ax_nx (I (m + 18)) (c - h) h + 0)) wr (nI 40)) k op wr cd I) m 32) = nI op from ax_TI_32]
          refine x_iconst C (v := nI 1) (dk ddX11_one 53 rfl) (by decide) ?_
          refine x_iadd_n C (dk ddX11_one 54 rfl) ?_
          refine x_puti C flX11_352 fw11 rfl rfl (hM.lt (j := 0) (by decide)) hM.2.1 rfl rfl (dk ddX11_one 55 rfl) ?_
          rw [ax_TI_u32]
          refine x_aload_n C (dk ddX11_one 56 rfl) rfl ?_
          refine x_callV C (ci := 11) (As := []) (hsum (by omega) (ax_tkh (I (m + 18)) c (ax_nx (I (m + 18)) (c - (ax_nx (I (m + 18)) (c - h) h + 0)) (ax_nx (I (m + 18)) (c - h) h + 0)) wr (nI 40), k, wr, cd) y (show (ax_tkh (I (m + 18)) c (ax_nx (I (m + 18)) (c - (ax_nx (I (m + 18)) (c - h) h + 0)) (ax_nx (I (m + 18)) (c - h) h + 0)) wr (nI 40) : Nat) ≤ c from by omega) (show (k : Nat) ≤ ax_tkh (I (m + 18)) c (ax_nx (I (m + 18)) (c - (ax_nx (I (m + 18)) (c - h) h + 0)) (ax_nx (I (m + 18)) (c - h) h + 0)) wr (nI 40) from by omega) hy) mlX11_358 rfl rfl (hM.lt (j := 0) (by decide)) hM.2.1 ⟨by show d - 1 + 1 ≤ d; omega, by show 40 * (d - 1 + 1) ≤ 40 * d; omega⟩ ⟨Nat.le_refl _, Nat.le_refl _⟩ rfl (Nat.le_of_ble_eq_true rfl) (dk ddX11_one 57 rfl) ?_
          rintro v_ G_ I_ L_ ⟨rfl, rfl, rfl, rfl⟩
          have gy_ := ax_tx_gr (s := (ax_tkh (I (m + 18)) c (ax_nx (I (m + 18)) (c - (ax_nx (I (m + 18)) (c - h) h + 0)) (ax_nx (I (m + 18)) (c - h) h + 0)) wr (nI 40), k, wr, cd)) (show (ax_tkh (I (m + 18)) c (ax_nx (I (m + 18)) (c - (ax_nx (I (m + 18)) (c - h) h + 0)) (ax_nx (I (m + 18)) (c - h) h + 0)) wr (nI 40) : Nat) ≤ c from by omega) hy
          have gy1_ : ax_tkh (I (m + 18)) c (ax_nx (I (m + 18)) (c - (ax_nx (I (m + 18)) (c - h) h + 0)) (ax_nx (I (m + 18)) (c - h) h + 0)) wr (nI 40) ≤ y.1 := gy_.1
          have gy2_ := gy_.2.1
          have gy3_ : y.2.1 + (ax_tkh (I (m + 18)) c (ax_nx (I (m + 18)) (c - (ax_nx (I (m + 18)) (c - h) h + 0)) (ax_nx (I (m + 18)) (c - h) h + 0)) wr (nI 40)) ≤ (k) + y.1 := gy_.2.2
          refine x_aload_n C (dk ddX11_one 58 rfl) rfl ?_
          refine x_aload_n C (dk ddX11_one 59 rfl) rfl ?_
          refine x_geti C flX11_339 rfl (hM.lt (j := 0) (by decide)) hM.2.1 (dk ddX11_one 60 rfl) ?_
          rw [show ((ax_TI m y.1 y.2.1 (op + 1) y.2.2.1 y.2.2.2 I) m 33) = ax_b y.2.2.1 from ax_TI_33]
          refine x_if_ne_b C (tgt := 122) (dk ddX11_one 61 rfl) (by decide) (fun h110 => ?_) (fun h110 => ?_)
          · refine x_iconst C (v := nI 1) (dk ddX11_one 66 rfl) (by decide) ?_
            refine x_goto C (tgt := 127) (dk ddX11_one 67 rfl) (by decide) ?_
            refine x_puti C flX11_339 fw11 rfl rfl (hM.lt (j := 0) (by decide)) hM.2.1 rfl rfl (dk ddX11_one 69 rfl) ?_
            rw [show nI 1 = ax_b true from rfl, ax_TI_u33]
            refine x_aload_n C (dk ddX11_one 70 rfl) rfl ?_
            refine x_dup C (dk ddX11_one 71 rfl) rfl ?_
            refine x_geti C flX11_352 rfl (hM.lt (j := 0) (by decide)) hM.2.1 (dk ddX11_one 72 rfl) ?_
            rw [show ((ax_TI m y.1 y.2.1 (op + 1) true y.2.2.2 I) m 32) = nI (op + 1) from ax_TI_32]
            refine x_iconst C (v := nI 1) (dk ddX11_one 73 rfl) (by decide) ?_
            refine x_isub_n C (dk ddX11_one 74 rfl) (by omega) ?_
            refine x_puti C flX11_352 fw11 rfl rfl (hM.lt (j := 0) (by decide)) hM.2.1 rfl rfl (dk ddX11_one 75 rfl) ?_
            rw [ax_TI_u32]
            refine x_goto C (tgt := 148) (dk ddX11_one 76 rfl) (by decide) ?_
            have ez : u = (y.1, y.2.1, true, y.2.2.2) := by
              rw [h110] at hyz
              have hy2 : y = u := hyz
              rw [← hy2, ← h110]
            subst ez
            refine x_iload_n C (dk ddX11_one 80 rfl) rfl ?_
            refine x_if_eq_b C (tgt := 160) (dk ddX11_one 81 rfl) (by decide) (fun h149 => ?_) (fun h149 => ?_)
            · exact x_vret C rfl ⟨rfl, rfl, rfl, rfl⟩ rfl rfl (dk ddX11_one 87 rfl)
            · exfalso
              rw [h24] at h149; cases h149
          · refine x_aload_n C (dk ddX11_one 62 rfl) rfl ?_
            refine x_bipush C (v := nI 41) (dk ddX11_one 63 rfl) (by decide) ?_
            refine x_callV C (ci := 11) (As := [.int (nI 41)]) (k_X11_takes l D T o (d - 1) G I L m c y.1 y.2.1 (op + 1) y.2.2.1 y.2.2.2 (nI 41) hM hc hc1 (by omega) (by omega)) mlX11_355 rfl rfl (hM.lt (j := 0) (by decide)) hM.2.1 ⟨by show d - 1 + 1 ≤ d; omega, by show 40 * (d - 1 + 1) ≤ 40 * d; omega⟩ ⟨Nat.le_refl _, Nat.le_refl _⟩ rfl (Nat.le_of_ble_eq_true rfl) (dk ddX11_one 64 rfl) ?_
            rintro v_ G_ I_ L_ ⟨rfl, rfl, rfl, rfl⟩
            have hy116_ := ax_tkh_le (I (m + 18)) c (h := y.1) y.2.2.1 (nI 41) (by omega)
            have hy116a_ := hy116_.1
            have hy116b_ := hy116_.2.1 (by decide)
            refine x_if_ne_b C (tgt := 126) (dk ddX11_one 65 rfl) (by decide) (fun h119 => ?_) (fun h119 => ?_)
            · refine x_iconst C (v := nI 0) (dk ddX11_one 68 rfl) (by decide) ?_
              refine x_puti C flX11_339 fw11 rfl rfl (hM.lt (j := 0) (by decide)) hM.2.1 rfl rfl (dk ddX11_one 69 rfl) ?_
              rw [show nI 0 = ax_b false from rfl, ax_TI_u33]
              refine x_aload_n C (dk ddX11_one 70 rfl) rfl ?_
              refine x_dup C (dk ddX11_one 71 rfl) rfl ?_
              refine x_geti C flX11_352 rfl (hM.lt (j := 0) (by decide)) hM.2.1 (dk ddX11_one 72 rfl) ?_
              rw [show ((ax_TI m (ax_tkh (I (m + 18)) c y.1 y.2.2.1 (nI 41)) y.2.1 (op + 1) false y.2.2.2 I) m 32) = nI (op + 1) from ax_TI_32]
              refine x_iconst C (v := nI 1) (dk ddX11_one 73 rfl) (by decide) ?_
              refine x_isub_n C (dk ddX11_one 74 rfl) (by omega) ?_
              refine x_puti C flX11_352 fw11 rfl rfl (hM.lt (j := 0) (by decide)) hM.2.1 rfl rfl (dk ddX11_one 75 rfl) ?_
              rw [ax_TI_u32]
              refine x_goto C (tgt := 148) (dk ddX11_one 76 rfl) (by decide) ?_
              have ez : u = (ax_tkh (I (m + 18)) c y.1 y.2.2.1 (nI 41), y.2.1, false, y.2.2.2) := by
                rw [h110] at h119 hyz
                rw [h110, ← hyz]
                show (_, _, !_, _) = _
                rw [h119]
                rfl
              subst ez
              refine x_iload_n C (dk ddX11_one 80 rfl) rfl ?_
              refine x_if_eq_b C (tgt := 160) (dk ddX11_one 81 rfl) (by decide) (fun h149 => ?_) (fun h149 => ?_)
              · exact x_vret C rfl ⟨rfl, rfl, rfl, rfl⟩ rfl rfl (dk ddX11_one 87 rfl)
              · exfalso
                rw [h24] at h149; cases h149
            · refine x_iconst C (v := nI 1) (dk ddX11_one 66 rfl) (by decide) ?_
              refine x_goto C (tgt := 127) (dk ddX11_one 67 rfl) (by decide) ?_
              refine x_puti C flX11_339 fw11 rfl rfl (hM.lt (j := 0) (by decide)) hM.2.1 rfl rfl (dk ddX11_one 69 rfl) ?_
              rw [show nI 1 = ax_b true from rfl, ax_TI_u33]
              refine x_aload_n C (dk ddX11_one 70 rfl) rfl ?_
              refine x_dup C (dk ddX11_one 71 rfl) rfl ?_
              refine x_geti C flX11_352 rfl (hM.lt (j := 0) (by decide)) hM.2.1 (dk ddX11_one 72 rfl) ?_
              rw [show ((ax_TI m (ax_tkh (I (m + 18)) c y.1 y.2.2.1 (nI 41)) y.2.1 (op + 1) true y.2.2.2 I) m 32) = nI (op + 1) from ax_TI_32]
              refine x_iconst C (v := nI 1) (dk ddX11_one 73 rfl) (by decide) ?_
              refine x_isub_n C (dk ddX11_one 74 rfl) (by omega) ?_
              refine x_puti C flX11_352 fw11 rfl rfl (hM.lt (j := 0) (by decide)) hM.2.1 rfl rfl (dk ddX11_one 75 rfl) ?_
              rw [ax_TI_u32]
              refine x_goto C (tgt := 148) (dk ddX11_one 76 rfl) (by decide) ?_
              have ez : u = (ax_tkh (I (m + 18)) c y.1 y.2.2.1 (nI 41), y.2.1, true, y.2.2.2) := by
                rw [h110] at h119 hyz
                rw [h110, ← hyz]
                show (_, _, !_, _) = _
                rw [h119]
                rfl
              subst ez
              refine x_iload_n C (dk ddX11_one 80 rfl) rfl ?_
              refine x_if_eq_b C (tgt := 160) (dk ddX11_one 81 rfl) (by decide) (fun h149 => ?_) (fun h149 => ?_)
              · exact x_vret C rfl ⟨rfl, rfl, rfl, rfl⟩ rfl rfl (dk ddX11_one 87 rfl)
              · exfalso
                rw [h24] at h149; cases h149
    · unfold ax_1b at hz
      have hlt1 : ax_nx (I (m + 18)) (c - (ax_nx (I (m + 18)) (c - h) h + 0)) (ax_nx (I (m + 18)) (c - h) h + 0) < c := ax_vl_lt h53 (by decide)
      rw [show ax_in3 (ax_1f (I (m + 18)) c (ax_nx (I (m + 18)) (c - h) h + 0)).toInt64 0 7 = true from h53] at hz
      replace hz := Option.some.inj hz
      refine x_aload_n C (dk ddX11_one 32 rfl) rfl ?_
      refine x_dup C (dk ddX11_one 33 rfl) rfl ?_
      refine x_geti C flX11_336 rfl (hM.lt (j := 0) (by decide)) hM.2.1 (dk ddX11_one 34 rfl) ?_
      rw [show ((ax_TI m (ax_nx (I (m + 18)) (c - (ax_nx (I (m + 18)) (c - h) h + 0)) (ax_nx (I (m + 18)) (c - h) h + 0)) k op wr cd I) m 30) = nI (ax_nx (I (m + 18)) (c - (ax_nx (I (m + 18)) (c - h) h + 0)) (ax_nx (I (m + 18)) (c - h) h + 0)) from ax_TI_30]
      refine x_iconst C (v := nI 1) (dk ddX11_one 35 rfl) (by decide) ?_
      refine x_iadd_n C (dk ddX11_one 36 rfl) ?_
      refine x_puti C flX11_336 fw11 rfl rfl (hM.lt (j := 0) (by decide)) hM.2.1 rfl rfl (dk ddX11_one 37 rfl) ?_
      rw [ax_TI_u30]
      refine x_aload_n C (dk ddX11_one 38 rfl) rfl ?_
      refine x_iload_n C (dk ddX11_one 39 rfl) rfl ?_
      refine x_callV C (ci := 11) (As := [.int ((ax_vl (I (m + 18)) c (ax_nx (I (m + 18)) (c - (ax_nx (I (m + 18)) (c - h) h + 0)) (ax_nx (I (m + 18)) (c - h) h + 0))) - (nI 97))]) (k_X11_lays l D T o (d - 1) G I L m c (ax_nx (I (m + 18)) (c - (ax_nx (I (m + 18)) (c - h) h + 0)) (ax_nx (I (m + 18)) (c - h) h + 0) + 1) k op wr cd ((ax_vl (I (m + 18)) c (ax_nx (I (m + 18)) (c - (ax_nx (I (m + 18)) (c - h) h + 0)) (ax_nx (I (m + 18)) (c - h) h + 0))) - (nI 97)) hM hc hc1 (by omega) (by omega) (by omega)) mlX11_349 rfl rfl (hM.lt (j := 0) (by decide)) hM.2.1 ⟨by show d - 1 + 1 ≤ d; omega, by show 40 * (d - 1 + 1) ≤ 40 * d; omega⟩ ⟨Nat.le_refl _, Nat.le_refl _⟩ rfl (Nat.le_of_ble_eq_true rfl) (dk ddX11_one 40 rfl) ?_
      rintro v_ G_ I_ L_ ⟨rfl, rfl, rfl, rfl⟩
      rw [ax_TI_b]
      have hl68_ := ax_bif_le wr k
      refine x_goto C (tgt := 148) (dk ddX11_one 41 rfl) (by decide) ?_
      have ez : u = (ax_nx (I (m + 18)) (c - (ax_nx (I (m + 18)) (c - h) h + 0)) (ax_nx (I (m + 18)) (c - h) h + 0) + 1, (bif wr then k else k + 1), wr, (bif wr then cd else ax_cdu cd k ((ax_vl (I (m + 18)) c (ax_nx (I (m + 18)) (c - (ax_nx (I (m + 18)) (c - h) h + 0)) (ax_nx (I (m + 18)) (c - h) h + 0))) - (nI 97)))) := by
        exact hz.symm
      subst ez
      refine x_iload_n C (dk ddX11_one 80 rfl) rfl ?_
      refine x_if_eq_b C (tgt := 160) (dk ddX11_one 81 rfl) (by decide) (fun h149 => ?_) (fun h149 => ?_)
      · exact x_vret C rfl ⟨rfl, rfl, rfl, rfl⟩ rfl rfl (dk ddX11_one 87 rfl)
      · exfalso
        rw [h24] at h149; cases h149
  · rw [show ax_1t (I (m + 18)) c h = true from h24] at hX1
    have hlt0 : ax_nx (I (m + 18)) (c - h) h < c := ax_vl_lt h24 (by decide)
    obtain ⟨z, hz, hzu⟩ := Option.map_eq_some_iff.mp hX1
    refine x_iconst C (v := nI 1) (dk ddX11_one 16 rfl) (by decide) ?_
    refine x_goto C (tgt := 32) (dk ddX11_one 17 rfl) (by decide) ?_
    refine x_iadd_n C (dk ddX11_one 19 rfl) ?_
    refine x_puti C flX11_336 fw11 rfl rfl (hM.lt (j := 0) (by decide)) hM.2.1 rfl rfl (dk ddX11_one 20 rfl) ?_
    rw [ax_TI_u30]
    refine x_aload_n C (dk ddX11_one 21 rfl) rfl ?_
    refine x_callV C (ci := 11) (As := []) (k_X11_next l D T o (d - 1) G I L m c (ax_nx (I (m + 18)) (c - h) h + 1) k op wr cd hM hc hc1 (by omega) (by omega)) mlX11_343 rfl rfl (hM.lt (j := 0) (by decide)) hM.2.1 ⟨by show d - 1 + 1 ≤ d; omega, by show 40 * (d - 1 + 1) ≤ 40 * d; omega⟩ ⟨Nat.le_refl _, Nat.le_refl _⟩ rfl (Nat.le_of_ble_eq_true rfl) (dk ddX11_one 22 rfl) ?_
    rintro v_ G_ I_ L_ ⟨rfl, rfl, rfl, rfl⟩
    have hx37_ := ax_nx_le (I (m + 18)) (c - (ax_nx (I (m + 18)) (c - h) h + 1)) (ax_nx (I (m + 18)) (c - h) h + 1)
    refine x_bipush C (v := nI 97) (dk ddX11_one 23 rfl) (by decide) ?_
    refine x_isub C (dk ddX11_one 24 rfl) ?_
    refine x_istore_n C (lv' := [(3, .int ((ax_vl (I (m + 18)) c (ax_nx (I (m + 18)) (c - (ax_nx (I (m + 18)) (c - h) h + 1)) (ax_nx (I (m + 18)) (c - h) h + 1))) - (nI 97))), (2, .int (ax_b (ax_in3 (((ax_vl (I (m + 18)) c (ax_nx (I (m + 18)) (c - h) h)) - (nI 48)).toInt64) 0 9))), (1, .int ((ax_vl (I (m + 18)) c (ax_nx (I (m + 18)) (c - h) h)) - (nI 48))), (0, .ref m)]) (dk ddX11_one 25 rfl) (by decide) rfl ?_
    refine x_iload_n C (dk ddX11_one 26 rfl) rfl ?_
    refine x_i2l C (dk ddX11_one 27 rfl) ?_
    refine x_lconst C (v := 0) (dk ddX11_one 28 rfl) (by decide) ?_
    refine x_ldc2 C klX11_127 (dk ddX11_one 29 rfl) ?_
    refine x_callS C (As := [.long (((ax_vl (I (m + 18)) c (ax_nx (I (m + 18)) (c - (ax_nx (I (m + 18)) (c - h) h + 1)) (ax_nx (I (m + 18)) (c - h) h + 1))) - (nI 97)).toInt64), .long 0, .long 7]) (k_X11_in l D T o (d - 1) G (ax_TI m (ax_nx (I (m + 18)) (c - (ax_nx (I (m + 18)) (c - h) h + 1)) (ax_nx (I (m + 18)) (c - h) h + 1)) k op wr cd I) L (((ax_vl (I (m + 18)) c (ax_nx (I (m + 18)) (c - (ax_nx (I (m + 18)) (c - h) h + 1)) (ax_nx (I (m + 18)) (c - h) h + 1))) - (nI 97)).toInt64) 0 7) mlX11_123 ⟨by show d - 1 + 1 ≤ d; omega, by show 40 * (d - 1 + 1) ≤ 40 * d; omega⟩ ⟨Nat.le_refl _, Nat.le_refl _⟩ rfl (Nat.le_of_ble_eq_true rfl) (dk ddX11_one 30 rfl) ?_
    rintro v_ G_ I_ L_ ⟨rfl, rfl, rfl, rfl⟩
    refine x_if_eq_b C (tgt := 74) (dk ddX11_one 31 rfl) (by decide) (fun h53 => ?_) (fun h53 => ?_)
    · unfold ax_1b at hz
      rw [show ax_in3 (ax_1f (I (m + 18)) c (ax_nx (I (m + 18)) (c - h) h + 1)).toInt64 0 7 = false from h53] at hz
      refine x_aload_n C (dk ddX11_one 42 rfl) rfl ?_
      refine x_geti C flX11_352 rfl (hM.lt (j := 0) (by decide)) hM.2.1 (dk ddX11_one 43 rfl) ?_
      rw [show ((ax_TI m (ax_nx (I (m + 18)) (c - (ax_nx (I (m + 18)) (c - h) h + 1)) (ax_nx (I (m + 18)) (c - h) h + 1)) k op wr cd I) m 32) = nI op from ax_TI_32]
      refine x_iconst C (v := nI 4) (dk ddX11_one 44 rfl) (by decide) ?_
      refine x_icmp_ge_n C (tgt := 143) (dk ddX11_one 45 rfl) (by decide) (by omega) (by decide) (fun h79 => ?_) (fun h79 => ?_)
      · rw [decide_eq_false (show ¬ op < 4 from by omega)] at hz
        replace hz := Option.some.inj hz
        refine x_aload_n C (dk ddX11_one 77 rfl) rfl ?_
        refine x_iconst C (v := nI 1) (dk ddX11_one 78 rfl) (by decide) ?_
        refine x_puti C flX11_339 fw11 rfl rfl (hM.lt (j := 0) (by decide)) hM.2.1 rfl rfl (dk ddX11_one 79 rfl) ?_
        rw [show nI 1 = ax_b true from rfl, ax_TI_u33]
        have ez : z = (ax_nx (I (m + 18)) (c - (ax_nx (I (m + 18)) (c - h) h + 1)) (ax_nx (I (m + 18)) (c - h) h + 1), k, true, cd) := by
          exact hz.symm
        subst ez
        refine x_iload_n C (dk ddX11_one 80 rfl) rfl ?_
        refine x_if_eq_b C (tgt := 160) (dk ddX11_one 81 rfl) (by decide) (fun h149 => ?_) (fun h149 => ?_)
        · exfalso
          rw [h24] at h149; cases h149
        · refine x_aload_n C (dk ddX11_one 82 rfl) rfl ?_
          refine x_bipush C (v := nI 20) (dk ddX11_one 83 rfl) (by decide) ?_
          refine x_iload_n C (dk ddX11_one 84 rfl) rfl ?_
          refine x_iadd C (dk ddX11_one 85 rfl) ?_
          refine x_callV C (ci := 11) (As := [.int ((nI 20) + ((ax_vl (I (m + 18)) c (ax_nx (I (m + 18)) (c - h) h)) - (nI 48)))]) (k_X11_lays l D T o (d - 1) G I L m c (ax_nx (I (m + 18)) (c - (ax_nx (I (m + 18)) (c - h) h + 1)) (ax_nx (I (m + 18)) (c - h) h + 1)) k op true cd ((nI 20) + ((ax_vl (I (m + 18)) c (ax_nx (I (m + 18)) (c - h) h)) - (nI 48))) hM hc hc1 (by omega) (by omega) (by omega)) mlX11_349 rfl rfl (hM.lt (j := 0) (by decide)) hM.2.1 ⟨by show d - 1 + 1 ≤ d; omega, by show 40 * (d - 1 + 1) ≤ 40 * d; omega⟩ ⟨Nat.le_refl _, Nat.le_refl _⟩ rfl (Nat.le_of_ble_eq_true rfl) (dk ddX11_one 86 rfl) ?_
          rintro v_ G_ I_ L_ ⟨rfl, rfl, rfl, rfl⟩
          rw [ax_TI_b]
          have hl157_ := ax_bif_le true k
          subst hzu
          exact x_vret C rfl ⟨rfl, rfl, rfl, rfl⟩ rfl rfl (dk ddX11_one 87 rfl)
      · rw [decide_eq_true (show op < 4 from by omega)] at hz
        refine x_aload_n C (dk ddX11_one 46 rfl) rfl ?_
        refine x_bipush C (v := nI 40) (dk ddX11_one 47 rfl) (by decide) ?_
        refine x_callV C (ci := 11) (As := [.int (nI 40)]) (k_X11_takes l D T o (d - 1) G I L m c (ax_nx (I (m + 18)) (c - (ax_nx (I (m + 18)) (c - h) h + 1)) (ax_nx (I (m + 18)) (c - h) h + 1)) k op wr cd (nI 40) hM hc hc1 (by omega) (by omega)) mlX11_355 rfl rfl (hM.lt (j := 0) (by decide)) hM.2.1 ⟨by show d - 1 + 1 ≤ d; omega, by show 40 * (d - 1 + 1) ≤ 40 * d; omega⟩ ⟨Nat.le_refl _, Nat.le_refl _⟩ rfl (Nat.le_of_ble_eq_true rfl) (dk ddX11_one 48 rfl) ?_
        rintro v_ G_ I_ L_ ⟨rfl, rfl, rfl, rfl⟩
        have hy85_ := ax_tkh_le (I (m + 18)) c (h := ax_nx (I (m + 18)) (c - (ax_nx (I (m + 18)) (c - h) h + 1)) (ax_nx (I (m + 18)) (c - h) h + 1)) wr (nI 40) (by omega)
        have hy85a_ := hy85_.1
        have hy85b_ := hy85_.2.1 (by decide)
        refine x_if_eq_b C (tgt := 143) (dk ddX11_one 49 rfl) (by decide) (fun h88 => ?_) (fun h88 => ?_)
        · rw [show ax_tk (I (m + 18)) c (ax_n1 (I (m + 18)) c (ax_nx (I (m + 18)) (c - h) h + 1)) wr (nI 40) = false from h88] at hz
          replace hz := Option.some.inj hz
          refine x_aload_n C (dk ddX11_one 77 rfl) rfl ?_
          refine x_iconst C (v := nI 1) (dk ddX11_one 78 rfl) (by decide) ?_
          refine x_puti C flX11_339 fw11 rfl rfl (hM.lt (j := 0) (by decide)) hM.2.1 rfl rfl (dk ddX11_one 79 rfl) ?_
          rw [show nI 1 = ax_b true from rfl, ax_TI_u33]
          have ez : z = (ax_tkh (I (m + 18)) c (ax_nx (I (m + 18)) (c - (ax_nx (I (m + 18)) (c - h) h + 1)) (ax_nx (I (m + 18)) (c - h) h + 1)) wr (nI 40), k, true, cd) := by
            exact hz.symm
          subst ez
          refine x_iload_n C (dk ddX11_one 80 rfl) rfl ?_
          refine x_if_eq_b C (tgt := 160) (dk ddX11_one 81 rfl) (by decide) (fun h149 => ?_) (fun h149 => ?_)
          · exfalso
            rw [h24] at h149; cases h149
          · refine x_aload_n C (dk ddX11_one 82 rfl) rfl ?_
            refine x_bipush C (v := nI 20) (dk ddX11_one 83 rfl) (by decide) ?_
            refine x_iload_n C (dk ddX11_one 84 rfl) rfl ?_
            refine x_iadd C (dk ddX11_one 85 rfl) ?_
            refine x_callV C (ci := 11) (As := [.int ((nI 20) + ((ax_vl (I (m + 18)) c (ax_nx (I (m + 18)) (c - h) h)) - (nI 48)))]) (k_X11_lays l D T o (d - 1) G I L m c (ax_tkh (I (m + 18)) c (ax_nx (I (m + 18)) (c - (ax_nx (I (m + 18)) (c - h) h + 1)) (ax_nx (I (m + 18)) (c - h) h + 1)) wr (nI 40)) k op true cd ((nI 20) + ((ax_vl (I (m + 18)) c (ax_nx (I (m + 18)) (c - h) h)) - (nI 48))) hM hc hc1 (by omega) (by omega) (by omega)) mlX11_349 rfl rfl (hM.lt (j := 0) (by decide)) hM.2.1 ⟨by show d - 1 + 1 ≤ d; omega, by show 40 * (d - 1 + 1) ≤ 40 * d; omega⟩ ⟨Nat.le_refl _, Nat.le_refl _⟩ rfl (Nat.le_of_ble_eq_true rfl) (dk ddX11_one 86 rfl) ?_
            rintro v_ G_ I_ L_ ⟨rfl, rfl, rfl, rfl⟩
            rw [ax_TI_b]
            have hl157_ := ax_bif_le true k
            subst hzu
            exact x_vret C rfl ⟨rfl, rfl, rfl, rfl⟩ rfl rfl (dk ddX11_one 87 rfl)
        · rw [show ax_tk (I (m + 18)) c (ax_n1 (I (m + 18)) c (ax_nx (I (m + 18)) (c - h) h + 1)) wr (nI 40) = true from h88] at hz
          obtain ⟨y, hy, hyz⟩ := Option.map_eq_some_iff.mp hz
          refine x_aload_n C (dk ddX11_one 50 rfl) rfl ?_
          refine x_dup C (dk ddX11_one 51 rfl) rfl ?_
          refine x_geti C flX11_352 rfl (hM.lt (j := 0) (by decide)) hM.2.1 (dk ddX11_one 52 rfl) ?_
          rw [show ((ax_TI m (ax_tkh (I (m + 18)) c (ax_nx (I (m + 18)) (c - (ax_nx (I (m + 18)) (c - h) h + 1)) (ax_nx (I (m + 18)) (c - h) h + 1)) wr (nI 40)) k op wr cd I) m 32) = nI op from ax_TI_32]
          refine x_iconst C (v := nI 1) (dk ddX11_one 53 rfl) (by decide) ?_
          refine x_iadd_n C (dk ddX11_one 54 rfl) ?_
          refine x_puti C flX11_352 fw11 rfl rfl (hM.lt (j := 0) (by decide)) hM.2.1 rfl rfl (dk ddX11_one 55 rfl) ?_
          rw [ax_TI_u32]
          refine x_aload_n C (dk ddX11_one 56 rfl) rfl ?_
          refine x_callV C (ci := 11) (As := []) (hsum (by omega) (ax_tkh (I (m + 18)) c (ax_nx (I (m + 18)) (c - (ax_nx (I (m + 18)) (c - h) h + 1)) (ax_nx (I (m + 18)) (c - h) h + 1)) wr (nI 40), k, wr, cd) y (show (ax_tkh (I (m + 18)) c (ax_nx (I (m + 18)) (c - (ax_nx (I (m + 18)) (c - h) h + 1)) (ax_nx (I (m + 18)) (c - h) h + 1)) wr (nI 40) : Nat) ≤ c from by omega) (show (k : Nat) ≤ ax_tkh (I (m + 18)) c (ax_nx (I (m + 18)) (c - (ax_nx (I (m + 18)) (c - h) h + 1)) (ax_nx (I (m + 18)) (c - h) h + 1)) wr (nI 40) from by omega) hy) mlX11_358 rfl rfl (hM.lt (j := 0) (by decide)) hM.2.1 ⟨by show d - 1 + 1 ≤ d; omega, by show 40 * (d - 1 + 1) ≤ 40 * d; omega⟩ ⟨Nat.le_refl _, Nat.le_refl _⟩ rfl (Nat.le_of_ble_eq_true rfl) (dk ddX11_one 57 rfl) ?_
          rintro v_ G_ I_ L_ ⟨rfl, rfl, rfl, rfl⟩
          have gy_ := ax_tx_gr (s := (ax_tkh (I (m + 18)) c (ax_nx (I (m + 18)) (c - (ax_nx (I (m + 18)) (c - h) h + 1)) (ax_nx (I (m + 18)) (c - h) h + 1)) wr (nI 40), k, wr, cd)) (show (ax_tkh (I (m + 18)) c (ax_nx (I (m + 18)) (c - (ax_nx (I (m + 18)) (c - h) h + 1)) (ax_nx (I (m + 18)) (c - h) h + 1)) wr (nI 40) : Nat) ≤ c from by omega) hy
          have gy1_ : ax_tkh (I (m + 18)) c (ax_nx (I (m + 18)) (c - (ax_nx (I (m + 18)) (c - h) h + 1)) (ax_nx (I (m + 18)) (c - h) h + 1)) wr (nI 40) ≤ y.1 := gy_.1
          have gy2_ := gy_.2.1
          have gy3_ : y.2.1 + (ax_tkh (I (m + 18)) c (ax_nx (I (m + 18)) (c - (ax_nx (I (m + 18)) (c - h) h + 1)) (ax_nx (I (m + 18)) (c - h) h + 1)) wr (nI 40)) ≤ (k) + y.1 := gy_.2.2
          refine x_aload_n C (dk ddX11_one 58 rfl) rfl ?_
          refine x_aload_n C (dk ddX11_one 59 rfl) rfl ?_
          refine x_geti C flX11_339 rfl (hM.lt (j := 0) (by decide)) hM.2.1 (dk ddX11_one 60 rfl) ?_
          rw [show ((ax_TI m y.1 y.2.1 (op + 1) y.2.2.1 y.2.2.2 I) m 33) = ax_b y.2.2.1 from ax_TI_33]
          refine x_if_ne_b C (tgt := 122) (dk ddX11_one 61 rfl) (by decide) (fun h110 => ?_) (fun h110 => ?_)
          · refine x_iconst C (v := nI 1) (dk ddX11_one 66 rfl) (by decide) ?_
            refine x_goto C (tgt := 127) (dk ddX11_one 67 rfl) (by decide) ?_
            refine x_puti C flX11_339 fw11 rfl rfl (hM.lt (j := 0) (by decide)) hM.2.1 rfl rfl (dk ddX11_one 69 rfl) ?_
            rw [show nI 1 = ax_b true from rfl, ax_TI_u33]
            refine x_aload_n C (dk ddX11_one 70 rfl) rfl ?_
            refine x_dup C (dk ddX11_one 71 rfl) rfl ?_
            refine x_geti C flX11_352 rfl (hM.lt (j := 0) (by decide)) hM.2.1 (dk ddX11_one 72 rfl) ?_
            rw [show ((ax_TI m y.1 y.2.1 (op + 1) true y.2.2.2 I) m 32) = nI (op + 1) from ax_TI_32]
            refine x_iconst C (v := nI 1) (dk ddX11_one 73 rfl) (by decide) ?_
            refine x_isub_n C (dk ddX11_one 74 rfl) (by omega) ?_
            refine x_puti C flX11_352 fw11 rfl rfl (hM.lt (j := 0) (by decide)) hM.2.1 rfl rfl (dk ddX11_one 75 rfl) ?_
            rw [ax_TI_u32]
            refine x_goto C (tgt := 148) (dk ddX11_one 76 rfl) (by decide) ?_
            have ez : z = (y.1, y.2.1, true, y.2.2.2) := by
              rw [h110] at hyz
              have hy2 : y = z := hyz
              rw [← hy2, ← h110]
            subst ez
            refine x_iload_n C (dk ddX11_one 80 rfl) rfl ?_
            refine x_if_eq_b C (tgt := 160) (dk ddX11_one 81 rfl) (by decide) (fun h149 => ?_) (fun h149 => ?_)
            · exfalso
              rw [h24] at h149; cases h149
            · refine x_aload_n C (dk ddX11_one 82 rfl) rfl ?_
              refine x_bipush C (v := nI 20) (dk ddX11_one 83 rfl) (by decide) ?_
              refine x_iload_n C (dk ddX11_one 84 rfl) rfl ?_
              refine x_iadd C (dk ddX11_one 85 rfl) ?_
              refine x_callV C (ci := 11) (As := [.int ((nI 20) + ((ax_vl (I (m + 18)) c (ax_nx (I (m + 18)) (c - h) h)) - (nI 48)))]) (k_X11_lays l D T o (d - 1) G I L m c y.1 y.2.1 (op + 1 - 1) true y.2.2.2 ((nI 20) + ((ax_vl (I (m + 18)) c (ax_nx (I (m + 18)) (c - h) h)) - (nI 48))) hM hc hc1 (by omega) (by omega) (by omega)) mlX11_349 rfl rfl (hM.lt (j := 0) (by decide)) hM.2.1 ⟨by show d - 1 + 1 ≤ d; omega, by show 40 * (d - 1 + 1) ≤ 40 * d; omega⟩ ⟨Nat.le_refl _, Nat.le_refl _⟩ rfl (Nat.le_of_ble_eq_true rfl) (dk ddX11_one 86 rfl) ?_
              rintro v_ G_ I_ L_ ⟨rfl, rfl, rfl, rfl⟩
              rw [ax_TI_b]
              have hl157_ := ax_bif_le true y.2.1
              subst hzu
              exact x_vret C rfl ⟨rfl, rfl, rfl, rfl⟩ rfl rfl (dk ddX11_one 87 rfl)
          · refine x_aload_n C (dk ddX11_one 62 rfl) rfl ?_
            refine x_bipush C (v := nI 41) (dk ddX11_one 63 rfl) (by decide) ?_
            refine x_callV C (ci := 11) (As := [.int (nI 41)]) (k_X11_takes l D T o (d - 1) G I L m c y.1 y.2.1 (op + 1) y.2.2.1 y.2.2.2 (nI 41) hM hc hc1 (by omega) (by omega)) mlX11_355 rfl rfl (hM.lt (j := 0) (by decide)) hM.2.1 ⟨by show d - 1 + 1 ≤ d; omega, by show 40 * (d - 1 + 1) ≤ 40 * d; omega⟩ ⟨Nat.le_refl _, Nat.le_refl _⟩ rfl (Nat.le_of_ble_eq_true rfl) (dk ddX11_one 64 rfl) ?_
            rintro v_ G_ I_ L_ ⟨rfl, rfl, rfl, rfl⟩
            have hy116_ := ax_tkh_le (I (m + 18)) c (h := y.1) y.2.2.1 (nI 41) (by omega)
            have hy116a_ := hy116_.1
            have hy116b_ := hy116_.2.1 (by decide)
            refine x_if_ne_b C (tgt := 126) (dk ddX11_one 65 rfl) (by decide) (fun h119 => ?_) (fun h119 => ?_)
            · refine x_iconst C (v := nI 0) (dk ddX11_one 68 rfl) (by decide) ?_
              refine x_puti C flX11_339 fw11 rfl rfl (hM.lt (j := 0) (by decide)) hM.2.1 rfl rfl (dk ddX11_one 69 rfl) ?_
              rw [show nI 0 = ax_b false from rfl, ax_TI_u33]
              refine x_aload_n C (dk ddX11_one 70 rfl) rfl ?_
              refine x_dup C (dk ddX11_one 71 rfl) rfl ?_
              refine x_geti C flX11_352 rfl (hM.lt (j := 0) (by decide)) hM.2.1 (dk ddX11_one 72 rfl) ?_
              rw [show ((ax_TI m (ax_tkh (I (m + 18)) c y.1 y.2.2.1 (nI 41)) y.2.1 (op + 1) false y.2.2.2 I) m 32) = nI (op + 1) from ax_TI_32]
              refine x_iconst C (v := nI 1) (dk ddX11_one 73 rfl) (by decide) ?_
              refine x_isub_n C (dk ddX11_one 74 rfl) (by omega) ?_
              refine x_puti C flX11_352 fw11 rfl rfl (hM.lt (j := 0) (by decide)) hM.2.1 rfl rfl (dk ddX11_one 75 rfl) ?_
              rw [ax_TI_u32]
              refine x_goto C (tgt := 148) (dk ddX11_one 76 rfl) (by decide) ?_
              have ez : z = (ax_tkh (I (m + 18)) c y.1 y.2.2.1 (nI 41), y.2.1, false, y.2.2.2) := by
                rw [h110] at h119 hyz
                rw [h110, ← hyz]
                show (_, _, !_, _) = _
                rw [h119]
                rfl
              subst ez
              refine x_iload_n C (dk ddX11_one 80 rfl) rfl ?_
              refine x_if_eq_b C (tgt := 160) (dk ddX11_one 81 rfl) (by decide) (fun h149 => ?_) (fun h149 => ?_)
              · exfalso
                rw [h24] at h149; cases h149
              · refine x_aload_n C (dk ddX11_one 82 rfl) rfl ?_
                refine x_bipush C (v := nI 20) (dk ddX11_one 83 rfl) (by decide) ?_
                refine x_iload_n C (dk ddX11_one 84 rfl) rfl ?_
                refine x_iadd C (dk ddX11_one 85 rfl) ?_
                refine x_callV C (ci := 11) (As := [.int ((nI 20) + ((ax_vl (I (m + 18)) c (ax_nx (I (m + 18)) (c - h) h)) - (nI 48)))]) (k_X11_lays l D T o (d - 1) G I L m c (ax_tkh (I (m + 18)) c y.1 y.2.2.1 (nI 41)) y.2.1 (op + 1 - 1) false y.2.2.2 ((nI 20) + ((ax_vl (I (m + 18)) c (ax_nx (I (m + 18)) (c - h) h)) - (nI 48))) hM hc hc1 (by omega) (by omega) (by omega)) mlX11_349 rfl rfl (hM.lt (j := 0) (by decide)) hM.2.1 ⟨by show d - 1 + 1 ≤ d; omega, by show 40 * (d - 1 + 1) ≤ 40 * d; omega⟩ ⟨Nat.le_refl _, Nat.le_refl _⟩ rfl (Nat.le_of_ble_eq_true rfl) (dk ddX11_one 86 rfl) ?_
                rintro v_ G_ I_ L_ ⟨rfl, rfl, rfl, rfl⟩
                rw [ax_TI_b]
                have hl157_ := ax_bif_le false y.2.1
                subst hzu
                exact x_vret C rfl ⟨rfl, rfl, rfl, rfl⟩ rfl rfl (dk ddX11_one 87 rfl)
            · refine x_iconst C (v := nI 1) (dk ddX11_one 66 rfl) (by decide) ?_
              refine x_goto C (tgt := 127) (dk ddX11_one 67 rfl) (by decide) ?_
              refine x_puti C flX11_339 fw11 rfl rfl (hM.lt (j := 0) (by decide)) hM.2.1 rfl rfl (dk ddX11_one 69 rfl) ?_
              rw [show nI 1 = ax_b true from rfl, ax_TI_u33]
              refine x_aload_n C (dk ddX11_one 70 rfl) rfl ?_
              refine x_dup C (dk ddX11_one 71 rfl) rfl ?_
              refine x_geti C flX11_352 rfl (hM.lt (j := 0) (by decide)) hM.2.1 (dk ddX11_one 72 rfl) ?_
              rw [show ((ax_TI m (ax_tkh (I (m + 18)) c y.1 y.2.2.1 (nI 41)) y.2.1 (op + 1) true y.2.2.2 I) m 32) = nI (op + 1) from ax_TI_32]
              refine x_iconst C (v := nI 1) (dk ddX11_one 73 rfl) (by decide) ?_
              refine x_isub_n C (dk ddX11_one 74 rfl) (by omega) ?_
              refine x_puti C flX11_352 fw11 rfl rfl (hM.lt (j := 0) (by decide)) hM.2.1 rfl rfl (dk ddX11_one 75 rfl) ?_
              rw [ax_TI_u32]
              refine x_goto C (tgt := 148) (dk ddX11_one 76 rfl) (by decide) ?_
              have ez : z = (ax_tkh (I (m + 18)) c y.1 y.2.2.1 (nI 41), y.2.1, true, y.2.2.2) := by
                rw [h110] at h119 hyz
                rw [h110, ← hyz]
                show (_, _, !_, _) = _
                rw [h119]
                rfl
              subst ez
              refine x_iload_n C (dk ddX11_one 80 rfl) rfl ?_
              refine x_if_eq_b C (tgt := 160) (dk ddX11_one 81 rfl) (by decide) (fun h149 => ?_) (fun h149 => ?_)
              · exfalso
                rw [h24] at h149; cases h149
              · refine x_aload_n C (dk ddX11_one 82 rfl) rfl ?_
                refine x_bipush C (v := nI 20) (dk ddX11_one 83 rfl) (by decide) ?_
                refine x_iload_n C (dk ddX11_one 84 rfl) rfl ?_
                refine x_iadd C (dk ddX11_one 85 rfl) ?_
                refine x_callV C (ci := 11) (As := [.int ((nI 20) + ((ax_vl (I (m + 18)) c (ax_nx (I (m + 18)) (c - h) h)) - (nI 48)))]) (k_X11_lays l D T o (d - 1) G I L m c (ax_tkh (I (m + 18)) c y.1 y.2.2.1 (nI 41)) y.2.1 (op + 1 - 1) true y.2.2.2 ((nI 20) + ((ax_vl (I (m + 18)) c (ax_nx (I (m + 18)) (c - h) h)) - (nI 48))) hM hc hc1 (by omega) (by omega) (by omega)) mlX11_349 rfl rfl (hM.lt (j := 0) (by decide)) hM.2.1 ⟨by show d - 1 + 1 ≤ d; omega, by show 40 * (d - 1 + 1) ≤ 40 * d; omega⟩ ⟨Nat.le_refl _, Nat.le_refl _⟩ rfl (Nat.le_of_ble_eq_true rfl) (dk ddX11_one 86 rfl) ?_
                rintro v_ G_ I_ L_ ⟨rfl, rfl, rfl, rfl⟩
                rw [ax_TI_b]
                have hl157_ := ax_bif_le true y.2.1
                subst hzu
                exact x_vret C rfl ⟨rfl, rfl, rfl, rfl⟩ rfl rfl (dk ddX11_one 87 rfl)
    · unfold ax_1b at hz
      have hlt1 : ax_nx (I (m + 18)) (c - (ax_nx (I (m + 18)) (c - h) h + 1)) (ax_nx (I (m + 18)) (c - h) h + 1) < c := ax_vl_lt h53 (by decide)
      rw [show ax_in3 (ax_1f (I (m + 18)) c (ax_nx (I (m + 18)) (c - h) h + 1)).toInt64 0 7 = true from h53] at hz
      replace hz := Option.some.inj hz
      refine x_aload_n C (dk ddX11_one 32 rfl) rfl ?_
      refine x_dup C (dk ddX11_one 33 rfl) rfl ?_
      refine x_geti C flX11_336 rfl (hM.lt (j := 0) (by decide)) hM.2.1 (dk ddX11_one 34 rfl) ?_
      rw [show ((ax_TI m (ax_nx (I (m + 18)) (c - (ax_nx (I (m + 18)) (c - h) h + 1)) (ax_nx (I (m + 18)) (c - h) h + 1)) k op wr cd I) m 30) = nI (ax_nx (I (m + 18)) (c - (ax_nx (I (m + 18)) (c - h) h + 1)) (ax_nx (I (m + 18)) (c - h) h + 1)) from ax_TI_30]
      refine x_iconst C (v := nI 1) (dk ddX11_one 35 rfl) (by decide) ?_
      refine x_iadd_n C (dk ddX11_one 36 rfl) ?_
      refine x_puti C flX11_336 fw11 rfl rfl (hM.lt (j := 0) (by decide)) hM.2.1 rfl rfl (dk ddX11_one 37 rfl) ?_
      rw [ax_TI_u30]
      refine x_aload_n C (dk ddX11_one 38 rfl) rfl ?_
      refine x_iload_n C (dk ddX11_one 39 rfl) rfl ?_
      refine x_callV C (ci := 11) (As := [.int ((ax_vl (I (m + 18)) c (ax_nx (I (m + 18)) (c - (ax_nx (I (m + 18)) (c - h) h + 1)) (ax_nx (I (m + 18)) (c - h) h + 1))) - (nI 97))]) (k_X11_lays l D T o (d - 1) G I L m c (ax_nx (I (m + 18)) (c - (ax_nx (I (m + 18)) (c - h) h + 1)) (ax_nx (I (m + 18)) (c - h) h + 1) + 1) k op wr cd ((ax_vl (I (m + 18)) c (ax_nx (I (m + 18)) (c - (ax_nx (I (m + 18)) (c - h) h + 1)) (ax_nx (I (m + 18)) (c - h) h + 1))) - (nI 97)) hM hc hc1 (by omega) (by omega) (by omega)) mlX11_349 rfl rfl (hM.lt (j := 0) (by decide)) hM.2.1 ⟨by show d - 1 + 1 ≤ d; omega, by show 40 * (d - 1 + 1) ≤ 40 * d; omega⟩ ⟨Nat.le_refl _, Nat.le_refl _⟩ rfl (Nat.le_of_ble_eq_true rfl) (dk ddX11_one 40 rfl) ?_
      rintro v_ G_ I_ L_ ⟨rfl, rfl, rfl, rfl⟩
      rw [ax_TI_b]
      have hl68_ := ax_bif_le wr k
      refine x_goto C (tgt := 148) (dk ddX11_one 41 rfl) (by decide) ?_
      have ez : z = (ax_nx (I (m + 18)) (c - (ax_nx (I (m + 18)) (c - h) h + 1)) (ax_nx (I (m + 18)) (c - h) h + 1) + 1, (bif wr then k else k + 1), wr, (bif wr then cd else ax_cdu cd k ((ax_vl (I (m + 18)) c (ax_nx (I (m + 18)) (c - (ax_nx (I (m + 18)) (c - h) h + 1)) (ax_nx (I (m + 18)) (c - h) h + 1))) - (nI 97)))) := by
        exact hz.symm
      subst ez
      refine x_iload_n C (dk ddX11_one 80 rfl) rfl ?_
      refine x_if_eq_b C (tgt := 160) (dk ddX11_one 81 rfl) (by decide) (fun h149 => ?_) (fun h149 => ?_)
      · exfalso
        rw [h24] at h149; cases h149
      · refine x_aload_n C (dk ddX11_one 82 rfl) rfl ?_
        refine x_bipush C (v := nI 20) (dk ddX11_one 83 rfl) (by decide) ?_
        refine x_iload_n C (dk ddX11_one 84 rfl) rfl ?_
        refine x_iadd C (dk ddX11_one 85 rfl) ?_
        refine x_callV C (ci := 11) (As := [.int ((nI 20) + ((ax_vl (I (m + 18)) c (ax_nx (I (m + 18)) (c - h) h)) - (nI 48)))]) (k_X11_lays l D T o (d - 1) G I L m c (ax_nx (I (m + 18)) (c - (ax_nx (I (m + 18)) (c - h) h + 1)) (ax_nx (I (m + 18)) (c - h) h + 1) + 1) (bif wr then k else k + 1) op wr (bif wr then cd else ax_cdu cd k ((ax_vl (I (m + 18)) c (ax_nx (I (m + 18)) (c - (ax_nx (I (m + 18)) (c - h) h + 1)) (ax_nx (I (m + 18)) (c - h) h + 1))) - (nI 97))) ((nI 20) + ((ax_vl (I (m + 18)) c (ax_nx (I (m + 18)) (c - h) h)) - (nI 48))) hM hc hc1 (by omega) (by omega) (by omega)) mlX11_349 rfl rfl (hM.lt (j := 0) (by decide)) hM.2.1 ⟨by show d - 1 + 1 ≤ d; omega, by show 40 * (d - 1 + 1) ≤ 40 * d; omega⟩ ⟨Nat.le_refl _, Nat.le_refl _⟩ rfl (Nat.le_of_ble_eq_true rfl) (dk ddX11_one 86 rfl) ?_
        rintro v_ G_ I_ L_ ⟨rfl, rfl, rfl, rfl⟩
        rw [ax_TI_b]
        have hl157_ := ax_bif_le wr (bif wr then k else k + 1)
        subst hzu
        exact x_vret C rfl ⟨rfl, rfl, rfl, rfl⟩ rfl rfl (dk ddX11_one 87 rfl)
theorem ax_nx_idem (T : Nat → Int32) : ∀ n h, ax_nx T (h + n - ax_nx T n h) (ax_nx T n h) = ax_nx T n h
  | 0, h => by rw [show h + 0 - ax_nx T 0 h = 0 from Nat.sub_self h]; rfl
  | n + 1, h => by
    by_cases hb : T h = nI 32
    · have e : ax_nx T (n + 1) h = ax_nx T n (h + 1) := if_pos hb
      rw [e, show h + (n + 1) = h + 1 + n by omega]
      exact ax_nx_idem T n (h + 1)
    · have e : ax_nx T (n + 1) h = h := if_neg hb
      rw [e, show h + (n + 1) - h = n + 1 by omega]
      exact e
theorem ax_nx_nx {T : Nat → Int32} {c h : Nat} (hh : h ≤ c) : ax_nx T (c - ax_nx T (c - h) h) (ax_nx T (c - h) h) = ax_nx T (c - h) h := by
  have := ax_nx_idem T (c - h) h
  rwa [show h + (c - h) = c by omega] at this
set_option maxRecDepth 20000 in
/-- X11_chain over what it calls -/
theorem k_X11_chain_of (l : Launch) (D : va_G) (T : Nat → ClassId) (o d : Nat) (G : ax_G) (I : ax_I) (L : ax_L) (m c n h k op : Nat) (wr : Bool) (cd : Nat → Int32) (u : ax_TS) (hM : ax_Mod G m) (hc : I m 29 = nI c) (hc1 : c ≤ 100) (hh : h ≤ c) (hk : k ≤ h) (hone : ∀ n2, n2 ≤ n → ∀ (s v : ax_TS), s.1 ≤ c → s.2.1 ≤ s.1 → ax_tx (I (m + 18)) c n2 0 (op) s = some v → ax_Con l D T o yX11_one cX11_one 4 none (d - 1) 0 0 [.ref m] G (ax_TI m s.1 s.2.1 (op) s.2.2.1 s.2.2.2 I) L (fun w G' I' L' => w = none ∧ G = G' ∧ ax_TI m v.1 v.2.1 (op) v.2.2.1 v.2.2.2 I = I' ∧ L = L')) (hX : ax_tx (I (m + 18)) c (n + 1) 1 op (h, k, wr, cd) = some u) (hd : 2 ≤ d) : ax_Con l D T o yX11_chain cX11_chain 1 none d 0 0 [.ref m] G (ax_TI m h k op wr cd I) L (fun v G' I' L' => v = none ∧ G = G' ∧ ax_TI m u.1 u.2.1 op u.2.2.1 u.2.2.2 I = I' ∧ L = L') := by
  refine ax_enter (by decide +kernel) (Nat.le_of_ble_eq_true rfl) ?_
  intro p_ e_ s_ m_ args_ below_ meth_ c_ C _
  refine x_lvs (lv' := [(0, .ref m)]) rfl ?_
  obtain ⟨y, hy, hyu⟩ := Option.bind_eq_some_iff.mp hX
  have hloop : ∀ (n2 : Nat), n2 ≤ n → ∀ (h2 k2 : Nat) (wr2 : Bool) (cd2 : Nat → Int32), h2 ≤ c → k2 ≤ h2 → ax_tx (I (m + 18)) c n2 2 op (h2, k2, wr2, cd2) = some u → ax_XM p_ l e_ s_ m_ args_ below_ meth_ c_ 1 D T o d 0 0 G (fun v G' I' L' => v = none ∧ G = G' ∧ ax_TI m u.1 u.2.1 op u.2.2.1 u.2.2.2 I = I' ∧ L = L') G (ax_TI m h2 k2 op wr2 cd2 I) L 4 [(0, .ref m)] [] := by
    intro n2
    induction n2 with
    | zero =>
      intro _ h2 k2 wr2 cd2 _ _ hz
      cases hz
    | succ n2 ih_ =>
      intro hn h2 k2 wr2 cd2 hh2 hk2 hz
      have hz1 : (bif ax_tk (I (m + 18)) c h2 wr2 (nI 46) then (ax_tx (I (m + 18)) c n2 0 op (ax_tkh (I (m + 18)) c h2 wr2 (nI 46), k2, wr2, cd2)).bind fun u => ax_tx (I (m + 18)) c n2 2 op (ax_lay (nI 40) u) else some (ax_tkh (I (m + 18)) c h2 wr2 (nI 46), k2, wr2, cd2)) = some u := hz
      refine x_aload_n C (dk ddX11_chain 2 rfl) rfl ?_
      refine x_bipush C (v := nI 46) (dk ddX11_chain 3 rfl) (by decide) ?_
      refine x_callV C (ci := 11) (As := [.int (nI 46)]) (k_X11_takes l D T o (d - 1) G I L m c h2 k2 op wr2 cd2 (nI 46) hM hc hc1 (by omega) (by omega)) mlX11_355 rfl rfl (hM.lt (j := 0) (by decide)) hM.2.1 ⟨by show d - 1 + 1 ≤ d; omega, by show 40 * (d - 1 + 1) ≤ 40 * d; omega⟩ ⟨Nat.le_refl _, Nat.le_refl _⟩ rfl (Nat.le_of_ble_eq_true rfl) (dk ddX11_chain 4 rfl) ?_
      rintro v_ G_ I_ L_ ⟨rfl, rfl, rfl, rfl⟩
      have hy7_ := ax_tkh_le (I (m + 18)) c (h := h2) wr2 (nI 46) (by omega)
      have hy7a_ := hy7_.1
      have hy7b_ := hy7_.2.1 (by decide)
      refine x_if_eq_b C (tgt := 26) (dk ddX11_chain 5 rfl) (by decide) (fun h10 => ?_) (fun h10 => ?_)
      · rw [h10] at hz1
        obtain rfl := Option.some.inj hz1
        exact x_vret C rfl ⟨rfl, rfl, rfl, rfl⟩ rfl rfl (dk ddX11_chain 12 rfl)
      · rw [h10] at hz1
        have hy7c_ := hy7_.2.2 h10
        obtain ⟨z, hz2, hz3⟩ := Option.bind_eq_some_iff.mp hz1
        refine x_aload_n C (dk ddX11_chain 6 rfl) rfl ?_
        refine x_callV C (ci := 11) (As := []) (hone n2 (by omega) (ax_tkh (I (m + 18)) c h2 wr2 (nI 46), k2, wr2, cd2) z (show (ax_tkh (I (m + 18)) c h2 wr2 (nI 46) : Nat) ≤ c from by omega) (show (k2 : Nat) ≤ ax_tkh (I (m + 18)) c h2 wr2 (nI 46) from by omega) hz2) mlX11_361 rfl rfl (hM.lt (j := 0) (by decide)) hM.2.1 ⟨by show d - 1 + 1 ≤ d; omega, by show 40 * (d - 1 + 1) ≤ 40 * d; omega⟩ ⟨Nat.le_refl _, Nat.le_refl _⟩ rfl (Nat.le_of_ble_eq_true rfl) (dk ddX11_chain 7 rfl) ?_
        rintro v_ G_ I_ L_ ⟨rfl, rfl, rfl, rfl⟩
        have gz_ := ax_tx_gr (s := (ax_tkh (I (m + 18)) c h2 wr2 (nI 46), k2, wr2, cd2)) (show (ax_tkh (I (m + 18)) c h2 wr2 (nI 46) : Nat) ≤ c from by omega) hz2
        have gz1_ : ax_tkh (I (m + 18)) c h2 wr2 (nI 46) ≤ z.1 := gz_.1
        have gz2_ := gz_.2.1
        have gz3_ : z.2.1 + (ax_tkh (I (m + 18)) c h2 wr2 (nI 46)) ≤ (k2) + z.1 := gz_.2.2
        refine x_aload_n C (dk ddX11_chain 8 rfl) rfl ?_
        refine x_bipush C (v := nI 40) (dk ddX11_chain 9 rfl) (by decide) ?_
        refine x_callV C (ci := 11) (As := [.int (nI 40)]) (k_X11_lays l D T o (d - 1) G I L m c z.1 z.2.1 op z.2.2.1 z.2.2.2 (nI 40) hM hc hc1 (by omega) (by omega) (by omega)) mlX11_349 rfl rfl (hM.lt (j := 0) (by decide)) hM.2.1 ⟨by show d - 1 + 1 ≤ d; omega, by show 40 * (d - 1 + 1) ≤ 40 * d; omega⟩ ⟨Nat.le_refl _, Nat.le_refl _⟩ rfl (Nat.le_of_ble_eq_true rfl) (dk ddX11_chain 10 rfl) ?_
        rintro v_ G_ I_ L_ ⟨rfl, rfl, rfl, rfl⟩
        rw [ax_TI_b]
        have hl20_ := ax_bif_le z.2.2.1 z.2.1
        refine x_goto C (tgt := 4) (dk ddX11_chain 11 rfl) (by decide) ?_
        have hl9_ := ax_lay_k (nI 40) z
        exact ih_ (by omega) z.1 (bif z.2.2.1 then z.2.1 else z.2.1 + 1) z.2.2.1 (bif z.2.2.1 then z.2.2.2 else ax_cdu z.2.2.2 z.2.1 (nI 40)) (by omega) (by omega) hz3
  refine x_aload_n C (dk ddX11_chain 0 rfl) rfl ?_
  refine x_callV C (ci := 11) (As := []) (hone n (Nat.le_refl _) (h, k, wr, cd) y (show (h : Nat) ≤ c from by omega) (show (k : Nat) ≤ h from by omega) hy) mlX11_361 rfl rfl (hM.lt (j := 0) (by decide)) hM.2.1 ⟨by show d - 1 + 1 ≤ d; omega, by show 40 * (d - 1 + 1) ≤ 40 * d; omega⟩ ⟨Nat.le_refl _, Nat.le_refl _⟩ rfl (Nat.le_of_ble_eq_true rfl) (dk ddX11_chain 1 rfl) ?_
  rintro v_ G_ I_ L_ ⟨rfl, rfl, rfl, rfl⟩
  have gy_ := ax_tx_gr (s := (h, k, wr, cd)) (show (h : Nat) ≤ c from by omega) hy
  have gy1_ : h ≤ y.1 := gy_.1
  have gy2_ := gy_.2.1
  have gy3_ : y.2.1 + (h) ≤ (k) + y.1 := gy_.2.2
  exact hloop n (Nat.le_refl _) y.1 y.2.1 y.2.2.1 y.2.2.2 (by omega) (by omega) hyu
set_option maxRecDepth 20000 in
/-- X11_sum over what it calls -/
theorem k_X11_sum_of (l : Launch) (D : va_G) (T : Nat → ClassId) (o d : Nat) (G : ax_G) (I : ax_I) (L : ax_L) (m c n h k op : Nat) (wr : Bool) (cd : Nat → Int32) (u : ax_TS) (hM : ax_Mod G m) (hc : I m 29 = nI c) (hc1 : c ≤ 100) (hh : h ≤ c) (hk : k ≤ h) (hchain : ∀ n2, n2 ≤ n → ∀ (s v : ax_TS), s.1 ≤ c → s.2.1 ≤ s.1 → ax_tx (I (m + 18)) c n2 1 (op) s = some v → ax_Con l D T o yX11_chain cX11_chain 1 none (d - 1) 0 0 [.ref m] G (ax_TI m s.1 s.2.1 (op) s.2.2.1 s.2.2.2 I) L (fun w G' I' L' => w = none ∧ G = G' ∧ ax_TI m v.1 v.2.1 (op) v.2.2.1 v.2.2.2 I = I' ∧ L = L')) (hX : ax_tx (I (m + 18)) c (n + 1) 3 op (h, k, wr, cd) = some u) (hd : 2 ≤ d) : ax_Con l D T o yX11_sum cX11_sum 3 none d 0 0 [.ref m] G (ax_TI m h k op wr cd I) L (fun v G' I' L' => v = none ∧ G = G' ∧ ax_TI m u.1 u.2.1 op u.2.2.1 u.2.2.2 I = I' ∧ L = L') := by
  refine ax_enter (by decide +kernel) (Nat.le_of_ble_eq_true rfl) ?_
  intro p_ e_ s_ m_ args_ below_ meth_ c_ C _
  refine x_lvs (lv' := [(0, .ref m)]) rfl ?_
  obtain ⟨y, hy, hyu⟩ := Option.bind_eq_some_iff.mp hX
  have hloop : ∀ (n2 : Nat), n2 ≤ n → ∀ (h2 k2 : Nat) (wr2 : Bool) (cd2 : Nat → Int32), h2 ≤ c → k2 ≤ h2 → ax_tx (I (m + 18)) c n2 4 op (h2, k2, wr2, cd2) = some u → ax_XM p_ l e_ s_ m_ args_ below_ meth_ c_ 3 D T o d 0 0 G (fun v G' I' L' => v = none ∧ G = G' ∧ ax_TI m u.1 u.2.1 op u.2.2.1 u.2.2.2 I = I' ∧ L = L') G (ax_TI m h2 k2 op wr2 cd2 I) L 21 [(0, .ref m)] [] := by
    intro n2
    induction n2 with
    | zero =>
      intro _ h2 k2 wr2 cd2 _ _ hz
      cases hz
    | succ n2 ih_ =>
      intro hn h2 k2 wr2 cd2 hh2 hk2 hz
      have hz1 : (bif wr2 then some (h2, k2, wr2, cd2) else (if ax_vl (I (m + 18)) c (ax_n1 (I (m + 18)) c h2) = nI 43 then (ax_tx (I (m + 18)) c n2 1 op (ax_n1 (I (m + 18)) c h2 + 1, k2, wr2, cd2)).bind fun u => ax_tx (I (m + 18)) c n2 4 op (ax_lay (nI 41) u) else if ax_vl (I (m + 18)) c (ax_n1 (I (m + 18)) c h2) = nI 45 then (ax_tx (I (m + 18)) c n2 1 op (ax_n1 (I (m + 18)) c h2 + 1, k2, wr2, cd2)).bind fun u => ax_tx (I (m + 18)) c n2 4 op (ax_lay (nI 42) u) else some (ax_n1 (I (m + 18)) c h2, k2, wr2, cd2))) = some u := hz
      refine x_aload_n C (dk ddX11_sum 11 rfl) rfl ?_
      refine x_geti C flX11_339 rfl (hM.lt (j := 0) (by decide)) hM.2.1 (dk ddX11_sum 12 rfl) ?_
      rw [show ((ax_TI m h2 k2 op wr2 cd2 I) m 33) = ax_b wr2 from ax_TI_33]
      refine x_if_ne_b C (tgt := 93) (dk ddX11_sum 13 rfl) (by decide) (fun h25 => ?_) (fun h25 => ?_)
      · subst h25
        obtain rfl := Option.some.inj hz1
        exact x_vret C rfl ⟨rfl, rfl, rfl, rfl⟩ rfl rfl (dk ddX11_sum 46 rfl)
      · subst h25
        refine x_aload_n C (dk ddX11_sum 14 rfl) rfl ?_
        refine x_callV C (ci := 11) (As := []) (k_X11_next l D T o (d - 1) G I L m c h2 k2 op false cd2 hM hc hc1 (by omega) (by omega)) mlX11_343 rfl rfl (hM.lt (j := 0) (by decide)) hM.2.1 ⟨by show d - 1 + 1 ≤ d; omega, by show 40 * (d - 1 + 1) ≤ 40 * d; omega⟩ ⟨Nat.le_refl _, Nat.le_refl _⟩ rfl (Nat.le_of_ble_eq_true rfl) (dk ddX11_sum 15 rfl) ?_
        rintro v_ G_ I_ L_ ⟨rfl, rfl, rfl, rfl⟩
        have hx29_ := ax_nx_le (I (m + 18)) (c - h2) h2
        refine x_bipush C (v := nI 43) (dk ddX11_sum 16 rfl) (by decide) ?_
        refine x_icmp_eq C (tgt := 46) (dk ddX11_sum 17 rfl) (by decide) (fun h34 => ?_) (fun h34 => ?_)
        · have hlt : ax_nx (I (m + 18)) (c - h2) h2 < c := by
            rcases Nat.lt_or_ge (ax_nx (I (m + 18)) (c - h2) h2) c with q | q
            · exact q
            · exfalso; rw [if_neg (by omega)] at h34; exact absurd h34 (by decide)
          rw [cond_false, if_pos (show ax_vl (I (m + 18)) c (ax_n1 (I (m + 18)) c h2) = nI 43 from h34)] at hz1
          obtain ⟨z, hz2, hz3⟩ := Option.bind_eq_some_iff.mp hz1
          refine x_aload_n C (dk ddX11_sum 22 rfl) rfl ?_
          refine x_callV C (ci := 11) (As := []) (k_X11_next l D T o (d - 1) G I L m c (ax_nx (I (m + 18)) (c - h2) h2) k2 op false cd2 hM hc hc1 (by omega) (by omega)) mlX11_343 rfl rfl (hM.lt (j := 0) (by decide)) hM.2.1 ⟨by show d - 1 + 1 ≤ d; omega, by show 40 * (d - 1 + 1) ≤ 40 * d; omega⟩ ⟨Nat.le_refl _, Nat.le_refl _⟩ rfl (Nat.le_of_ble_eq_true rfl) (dk ddX11_sum 23 rfl) ?_
          rintro v_ G_ I_ L_ ⟨rfl, rfl, rfl, rfl⟩
          rw [ax_nx_nx (h := h2) (by omega)]
          refine x_bipush C (v := nI 43) (dk ddX11_sum 24 rfl) (by decide) ?_
          refine x_icmp_ne C (tgt := 59) (dk ddX11_sum 25 rfl) (by decide) (fun h52 => ?_) (fun h52 => ?_)
          · exfalso
            exact h52 h34
          · refine x_iconst C (v := nI 1) (dk ddX11_sum 26 rfl) (by decide) ?_
            refine x_goto C (tgt := 60) (dk ddX11_sum 27 rfl) (by decide) ?_
            refine x_istore_n C (lv' := [(2, .int (nI 1)), (0, .ref m)]) (dk ddX11_sum 29 rfl) (by decide) rfl ?_
            refine x_aload_n C (dk ddX11_sum 30 rfl) rfl ?_
            refine x_dup C (dk ddX11_sum 31 rfl) rfl ?_
            refine x_geti C flX11_336 rfl (hM.lt (j := 0) (by decide)) hM.2.1 (dk ddX11_sum 32 rfl) ?_
            rw [show ((ax_TI m (ax_nx (I (m + 18)) (c - h2) h2) k2 op false cd2 I) m 30) = nI (ax_nx (I (m + 18)) (c - h2) h2) from ax_TI_30]
            refine x_iconst C (v := nI 1) (dk ddX11_sum 33 rfl) (by decide) ?_
            refine x_iadd_n C (dk ddX11_sum 34 rfl) ?_
            refine x_puti C flX11_336 fw11 rfl rfl (hM.lt (j := 0) (by decide)) hM.2.1 rfl rfl (dk ddX11_sum 35 rfl) ?_
            rw [ax_TI_u30]
            refine x_aload_n C (dk ddX11_sum 36 rfl) rfl ?_
            refine x_callV C (ci := 11) (As := []) (hchain n2 (by omega) (ax_nx (I (m + 18)) (c - h2) h2 + 1, k2, false, cd2) z (show (ax_nx (I (m + 18)) (c - h2) h2 + 1 : Nat) ≤ c from by omega) (show (k2 : Nat) ≤ ax_nx (I (m + 18)) (c - h2) h2 + 1 from by omega) hz2) mlX11_364 rfl rfl (hM.lt (j := 0) (by decide)) hM.2.1 ⟨by show d - 1 + 1 ≤ d; omega, by show 40 * (d - 1 + 1) ≤ 40 * d; omega⟩ ⟨Nat.le_refl _, Nat.le_refl _⟩ rfl (Nat.le_of_ble_eq_true rfl) (dk ddX11_sum 37 rfl) ?_
            rintro v_ G_ I_ L_ ⟨rfl, rfl, rfl, rfl⟩
            have gz_ := ax_tx_gr (s := (ax_nx (I (m + 18)) (c - h2) h2 + 1, k2, false, cd2)) (show (ax_nx (I (m + 18)) (c - h2) h2 + 1 : Nat) ≤ c from by omega) hz2
            have gz1_ : ax_nx (I (m + 18)) (c - h2) h2 + 1 ≤ z.1 := gz_.1
            have gz2_ := gz_.2.1
            have gz3_ : z.2.1 + (ax_nx (I (m + 18)) (c - h2) h2 + 1) ≤ (k2) + z.1 := gz_.2.2
            refine x_aload_n C (dk ddX11_sum 38 rfl) rfl ?_
            refine x_iload_n C (dk ddX11_sum 39 rfl) rfl ?_
            refine x_if_eq_n C (tgt := 85) (dk ddX11_sum 40 rfl) (by decide) (by decide) (fun h_ => absurd h_ (by decide)) (fun _ => ?_)
            refine x_bipush C (v := nI 41) (dk ddX11_sum 41 rfl) (by decide) ?_
            refine x_goto C (tgt := 87) (dk ddX11_sum 42 rfl) (by decide) ?_
            refine x_callV C (ci := 11) (As := [.int (nI 41)]) (k_X11_lays l D T o (d - 1) G I L m c z.1 z.2.1 op z.2.2.1 z.2.2.2 (nI 41) hM hc hc1 (by omega) (by omega) (by omega)) mlX11_349 rfl rfl (hM.lt (j := 0) (by decide)) hM.2.1 ⟨by show d - 1 + 1 ≤ d; omega, by show 40 * (d - 1 + 1) ≤ 40 * d; omega⟩ ⟨Nat.le_refl _, Nat.le_refl _⟩ rfl (Nat.le_of_ble_eq_true rfl) (dk ddX11_sum 44 rfl) ?_
            rintro v_ G_ I_ L_ ⟨rfl, rfl, rfl, rfl⟩
            rw [ax_TI_b]
            have hl87_ := ax_bif_le z.2.2.1 z.2.1
            refine x_goto C (tgt := 21) (dk ddX11_sum 45 rfl) (by decide) ?_
            refine x_sub [1] (lv' := [(0, .ref m)]) rfl ?_
            exact ih_ (by omega) z.1 (bif z.2.2.1 then z.2.1 else z.2.1 + 1) z.2.2.1 (bif z.2.2.1 then z.2.2.2 else ax_cdu z.2.2.2 z.2.1 (nI 41)) (by omega) (by omega) hz3
        · refine x_aload_n C (dk ddX11_sum 18 rfl) rfl ?_
          refine x_callV C (ci := 11) (As := []) (k_X11_next l D T o (d - 1) G I L m c (ax_nx (I (m + 18)) (c - h2) h2) k2 op false cd2 hM hc hc1 (by omega) (by omega)) mlX11_343 rfl rfl (hM.lt (j := 0) (by decide)) hM.2.1 ⟨by show d - 1 + 1 ≤ d; omega, by show 40 * (d - 1 + 1) ≤ 40 * d; omega⟩ ⟨Nat.le_refl _, Nat.le_refl _⟩ rfl (Nat.le_of_ble_eq_true rfl) (dk ddX11_sum 19 rfl) ?_
          rintro v_ G_ I_ L_ ⟨rfl, rfl, rfl, rfl⟩
          rw [ax_nx_nx (h := h2) (by omega)]
          refine x_bipush C (v := nI 45) (dk ddX11_sum 20 rfl) (by decide) ?_
          refine x_icmp_ne C (tgt := 93) (dk ddX11_sum 21 rfl) (by decide) (fun h43 => ?_) (fun h43 => ?_)
          · rw [cond_false, if_neg (show ¬ ax_vl (I (m + 18)) c (ax_n1 (I (m + 18)) c h2) = nI 43 from h34), if_neg (show ¬ ax_vl (I (m + 18)) c (ax_n1 (I (m + 18)) c h2) = nI 45 from h43)] at hz1
            obtain rfl := Option.some.inj hz1
            exact x_vret C rfl ⟨rfl, rfl, rfl, rfl⟩ rfl rfl (dk ddX11_sum 46 rfl)
          · have hlt : ax_nx (I (m + 18)) (c - h2) h2 < c := by
              rcases Nat.lt_or_ge (ax_nx (I (m + 18)) (c - h2) h2) c with q | q
              · exact q
              · exfalso; rw [if_neg (by omega)] at h43; exact absurd h43 (by decide)
            rw [cond_false, if_neg (show ¬ ax_vl (I (m + 18)) c (ax_n1 (I (m + 18)) c h2) = nI 43 from h34), if_pos (show ax_vl (I (m + 18)) c (ax_n1 (I (m + 18)) c h2) = nI 45 from h43)] at hz1
            obtain ⟨z, hz2, hz3⟩ := Option.bind_eq_some_iff.mp hz1
            refine x_aload_n C (dk ddX11_sum 22 rfl) rfl ?_
            refine x_callV C (ci := 11) (As := []) (k_X11_next l D T o (d - 1) G I L m c (ax_nx (I (m + 18)) (c - h2) h2) k2 op false cd2 hM hc hc1 (by omega) (by omega)) mlX11_343 rfl rfl (hM.lt (j := 0) (by decide)) hM.2.1 ⟨by show d - 1 + 1 ≤ d; omega, by show 40 * (d - 1 + 1) ≤ 40 * d; omega⟩ ⟨Nat.le_refl _, Nat.le_refl _⟩ rfl (Nat.le_of_ble_eq_true rfl) (dk ddX11_sum 23 rfl) ?_
            rintro v_ G_ I_ L_ ⟨rfl, rfl, rfl, rfl⟩
            rw [ax_nx_nx (h := h2) (by omega)]
            refine x_bipush C (v := nI 43) (dk ddX11_sum 24 rfl) (by decide) ?_
            refine x_icmp_ne C (tgt := 59) (dk ddX11_sum 25 rfl) (by decide) (fun h52 => ?_) (fun h52 => ?_)
            · refine x_iconst C (v := nI 0) (dk ddX11_sum 28 rfl) (by decide) ?_
              refine x_istore_n C (lv' := [(2, .int (nI 0)), (0, .ref m)]) (dk ddX11_sum 29 rfl) (by decide) rfl ?_
              refine x_aload_n C (dk ddX11_sum 30 rfl) rfl ?_
              refine x_dup C (dk ddX11_sum 31 rfl) rfl ?_
              refine x_geti C flX11_336 rfl (hM.lt (j := 0) (by decide)) hM.2.1 (dk ddX11_sum 32 rfl) ?_
              rw [show ((ax_TI m (ax_nx (I (m + 18)) (c - h2) h2) k2 op false cd2 I) m 30) = nI (ax_nx (I (m + 18)) (c - h2) h2) from ax_TI_30]
              refine x_iconst C (v := nI 1) (dk ddX11_sum 33 rfl) (by decide) ?_
              refine x_iadd_n C (dk ddX11_sum 34 rfl) ?_
              refine x_puti C flX11_336 fw11 rfl rfl (hM.lt (j := 0) (by decide)) hM.2.1 rfl rfl (dk ddX11_sum 35 rfl) ?_
              rw [ax_TI_u30]
              refine x_aload_n C (dk ddX11_sum 36 rfl) rfl ?_
              refine x_callV C (ci := 11) (As := []) (hchain n2 (by omega) (ax_nx (I (m + 18)) (c - h2) h2 + 1, k2, false, cd2) z (show (ax_nx (I (m + 18)) (c - h2) h2 + 1 : Nat) ≤ c from by omega) (show (k2 : Nat) ≤ ax_nx (I (m + 18)) (c - h2) h2 + 1 from by omega) hz2) mlX11_364 rfl rfl (hM.lt (j := 0) (by decide)) hM.2.1 ⟨by show d - 1 + 1 ≤ d; omega, by show 40 * (d - 1 + 1) ≤ 40 * d; omega⟩ ⟨Nat.le_refl _, Nat.le_refl _⟩ rfl (Nat.le_of_ble_eq_true rfl) (dk ddX11_sum 37 rfl) ?_
              rintro v_ G_ I_ L_ ⟨rfl, rfl, rfl, rfl⟩
              have gz_ := ax_tx_gr (s := (ax_nx (I (m + 18)) (c - h2) h2 + 1, k2, false, cd2)) (show (ax_nx (I (m + 18)) (c - h2) h2 + 1 : Nat) ≤ c from by omega) hz2
              have gz1_ : ax_nx (I (m + 18)) (c - h2) h2 + 1 ≤ z.1 := gz_.1
              have gz2_ := gz_.2.1
              have gz3_ : z.2.1 + (ax_nx (I (m + 18)) (c - h2) h2 + 1) ≤ (k2) + z.1 := gz_.2.2
              refine x_aload_n C (dk ddX11_sum 38 rfl) rfl ?_
              refine x_iload_n C (dk ddX11_sum 39 rfl) rfl ?_
              refine x_if_eq_n C (tgt := 85) (dk ddX11_sum 40 rfl) (by decide) (by decide) (fun _ => ?_) (fun h_ => absurd h_ (by decide))
              refine x_bipush C (v := nI 42) (dk ddX11_sum 43 rfl) (by decide) ?_
              refine x_callV C (ci := 11) (As := [.int (nI 42)]) (k_X11_lays l D T o (d - 1) G I L m c z.1 z.2.1 op z.2.2.1 z.2.2.2 (nI 42) hM hc hc1 (by omega) (by omega) (by omega)) mlX11_349 rfl rfl (hM.lt (j := 0) (by decide)) hM.2.1 ⟨by show d - 1 + 1 ≤ d; omega, by show 40 * (d - 1 + 1) ≤ 40 * d; omega⟩ ⟨Nat.le_refl _, Nat.le_refl _⟩ rfl (Nat.le_of_ble_eq_true rfl) (dk ddX11_sum 44 rfl) ?_
              rintro v_ G_ I_ L_ ⟨rfl, rfl, rfl, rfl⟩
              rw [ax_TI_b]
              have hl87_ := ax_bif_le z.2.2.1 z.2.1
              refine x_goto C (tgt := 21) (dk ddX11_sum 45 rfl) (by decide) ?_
              refine x_sub [1] (lv' := [(0, .ref m)]) rfl ?_
              exact ih_ (by omega) z.1 (bif z.2.2.1 then z.2.1 else z.2.1 + 1) z.2.2.1 (bif z.2.2.1 then z.2.2.2 else ax_cdu z.2.2.2 z.2.1 (nI 42)) (by omega) (by omega) hz3
            · exfalso
              exact h34 h52
  refine x_aload_n C (dk ddX11_sum 0 rfl) rfl ?_
  refine x_bipush C (v := nI 45) (dk ddX11_sum 1 rfl) (by decide) ?_
  refine x_callV C (ci := 11) (As := [.int (nI 45)]) (k_X11_takes l D T o (d - 1) G I L m c h k op wr cd (nI 45) hM hc hc1 (by omega) (by omega)) mlX11_355 rfl rfl (hM.lt (j := 0) (by decide)) hM.2.1 ⟨by show d - 1 + 1 ≤ d; omega, by show 40 * (d - 1 + 1) ≤ 40 * d; omega⟩ ⟨Nat.le_refl _, Nat.le_refl _⟩ rfl (Nat.le_of_ble_eq_true rfl) (dk ddX11_sum 2 rfl) ?_
  rintro v_ G_ I_ L_ ⟨rfl, rfl, rfl, rfl⟩
  have hy3_ := ax_tkh_le (I (m + 18)) c (h := h) wr (nI 45) (by omega)
  have hy3a_ := hy3_.1
  have hy3b_ := hy3_.2.1 (by decide)
  refine x_istore_n C (lv' := [(1, .int (ax_b (ax_tk (I (m + 18)) c h wr (nI 45)))), (0, .ref m)]) (dk ddX11_sum 3 rfl) (by decide) rfl ?_
  refine x_aload_n C (dk ddX11_sum 4 rfl) rfl ?_
  refine x_callV C (ci := 11) (As := []) (hchain n (Nat.le_refl _) (ax_tkh (I (m + 18)) c h wr (nI 45), k, wr, cd) y (show (ax_tkh (I (m + 18)) c h wr (nI 45) : Nat) ≤ c from by omega) (show (k : Nat) ≤ ax_tkh (I (m + 18)) c h wr (nI 45) from by omega) hy) mlX11_364 rfl rfl (hM.lt (j := 0) (by decide)) hM.2.1 ⟨by show d - 1 + 1 ≤ d; omega, by show 40 * (d - 1 + 1) ≤ 40 * d; omega⟩ ⟨Nat.le_refl _, Nat.le_refl _⟩ rfl (Nat.le_of_ble_eq_true rfl) (dk ddX11_sum 5 rfl) ?_
  rintro v_ G_ I_ L_ ⟨rfl, rfl, rfl, rfl⟩
  have gy_ := ax_tx_gr (s := (ax_tkh (I (m + 18)) c h wr (nI 45), k, wr, cd)) (show (ax_tkh (I (m + 18)) c h wr (nI 45) : Nat) ≤ c from by omega) hy
  have gy1_ : ax_tkh (I (m + 18)) c h wr (nI 45) ≤ y.1 := gy_.1
  have gy2_ := gy_.2.1
  have gy3_ : y.2.1 + (ax_tkh (I (m + 18)) c h wr (nI 45)) ≤ (k) + y.1 := gy_.2.2
  refine x_iload_n C (dk ddX11_sum 6 rfl) rfl ?_
  refine x_if_eq_b C (tgt := 21) (dk ddX11_sum 7 rfl) (by decide) (fun h12 => ?_) (fun h12 => ?_)
  · refine x_sub [1] (lv' := [(0, .ref m)]) rfl ?_
    have hyu2 := hyu
    rw [show ax_tk (I (m + 18)) c (h, k, wr, cd).1 (h, k, wr, cd).2.2.1 (nI 45) = false from h12] at hyu2
    exact hloop n (Nat.le_refl _) y.1 y.2.1 y.2.2.1 y.2.2.2 (by omega) (by omega) hyu2
  · have hy3c_ := hy3_.2.2 h12
    refine x_aload_n C (dk ddX11_sum 8 rfl) rfl ?_
    refine x_bipush C (v := nI 43) (dk ddX11_sum 9 rfl) (by decide) ?_
    refine x_callV C (ci := 11) (As := [.int (nI 43)]) (k_X11_lays l D T o (d - 1) G I L m c y.1 y.2.1 op y.2.2.1 y.2.2.2 (nI 43) hM hc hc1 (by omega) (by omega) (by omega)) mlX11_349 rfl rfl (hM.lt (j := 0) (by decide)) hM.2.1 ⟨by show d - 1 + 1 ≤ d; omega, by show 40 * (d - 1 + 1) ≤ 40 * d; omega⟩ ⟨Nat.le_refl _, Nat.le_refl _⟩ rfl (Nat.le_of_ble_eq_true rfl) (dk ddX11_sum 10 rfl) ?_
    rintro v_ G_ I_ L_ ⟨rfl, rfl, rfl, rfl⟩
    rw [ax_TI_b]
    have hl18_ := ax_bif_le y.2.2.1 y.2.1
    refine x_sub [1] (lv' := [(0, .ref m)]) rfl ?_
    have hyu2 := hyu
    rw [show ax_tk (I (m + 18)) c (h, k, wr, cd).1 (h, k, wr, cd).2.2.1 (nI 45) = true from h12] at hyu2
    exact hloop n (Nat.le_refl _) y.1 (bif y.2.2.1 then y.2.1 else y.2.1 + 1) y.2.2.1 (bif y.2.2.1 then y.2.2.2 else ax_cdu y.2.2.2 y.2.1 (nI 43)) (by omega) (by omega) hyu2
theorem k_X11_texts (l : Launch) (D : va_G) (T : Nat → ClassId) (o : Nat) (G : ax_G) (I : ax_I) (L : ax_L) (m c : Nat) (hM : ax_Mod G m) (hc : I m 29 = nI c) (hc1 : c ≤ 100) : ∀ (N n : Nat), n < N → (∀ (d op : Nat), op ≤ 4 → 3 * (4 - op) + 2 ≤ d → ∀ (s v : ax_TS), s.1 ≤ c → s.2.1 ≤ s.1 → ax_tx (I (m + 18)) c n 0 (op) s = some v → ax_Con l D T o yX11_one cX11_one 4 none d 0 0 [.ref m] G (ax_TI m s.1 s.2.1 (op) s.2.2.1 s.2.2.2 I) L (fun w G' I' L' => w = none ∧ G = G' ∧ ax_TI m v.1 v.2.1 (op) v.2.2.1 v.2.2.2 I = I' ∧ L = L')) ∧ (∀ (d op : Nat), op ≤ 4 → 3 * (4 - op) + 3 ≤ d → ∀ (s v : ax_TS), s.1 ≤ c → s.2.1 ≤ s.1 → ax_tx (I (m + 18)) c n 1 (op) s = some v → ax_Con l D T o yX11_chain cX11_chain 1 none d 0 0 [.ref m] G (ax_TI m s.1 s.2.1 (op) s.2.2.1 s.2.2.2 I) L (fun w G' I' L' => w = none ∧ G = G' ∧ ax_TI m v.1 v.2.1 (op) v.2.2.1 v.2.2.2 I = I' ∧ L = L')) ∧ (∀ (d op : Nat), op ≤ 4 → 3 * (4 - op) + 4 ≤ d → ∀ (s v : ax_TS), s.1 ≤ c → s.2.1 ≤ s.1 → ax_tx (I (m + 18)) c n 3 (op) s = some v → ax_Con l D T o yX11_sum cX11_sum 3 none d 0 0 [.ref m] G (ax_TI m s.1 s.2.1 (op) s.2.2.1 s.2.2.2 I) L (fun w G' I' L' => w = none ∧ G = G' ∧ ax_TI m v.1 v.2.1 (op) v.2.2.1 v.2.2.2 I = I' ∧ L = L')) := by
  intro N
  induction N with
  | zero => intro n hn; exact absurd hn (Nat.not_lt_zero n)
  | succ N ih =>
    intro n hn
    match n, hn with
    | 0, _ => exact ⟨fun d op _ _ s v _ _ h => (by cases h), fun d op _ _ s v _ _ h => (by cases h), fun d op _ _ s v _ _ h => (by cases h)⟩
    | n + 1, hn =>
      refine ⟨fun d op hop hd s v hs hk h => ?_, fun d op hop hd s v hs hk h => ?_, fun d op hop hd s v hs hk h => ?_⟩
      · exact k_X11_one_of l D T o d G I L m c n s.1 s.2.1 op s.2.2.1 s.2.2.2 v hM hc hc1 hs hk hop (fun ho => (ih n (by omega)).2.2 (d - 1) (op + 1) (by omega) (by omega)) h (by omega)
      · exact k_X11_chain_of l D T o d G I L m c n s.1 s.2.1 op s.2.2.1 s.2.2.2 v hM hc hc1 hs hk (fun n2 h2 => (ih n2 (by omega)).1 (d - 1) op hop (by omega)) h (by omega)
      · exact k_X11_sum_of l D T o d G I L m c n s.1 s.2.1 op s.2.2.1 s.2.2.2 v hM hc hc1 hs hk (fun n2 h2 => (ih n2 (by omega)).2.1 (d - 1) op hop (by omega)) h (by omega)
