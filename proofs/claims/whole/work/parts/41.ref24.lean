/-! ===== the reference: rest, next, takes, lays ===== -/
set_option maxRecDepth 20000 in
/-- rest, refused -/
theorem k_X11_rest_bad (l : Launch) (D : va_G) (T : Nat → ClassId) (o d : Nat) (G : ax_G) (I : ax_I) (L : ax_L) (m : Nat) (k : Int32) (hM : ax_Mod G m) (hd : 3 ≤ d) (hbad : (ax_in3 k.toInt64 0 3) = false) : ax_Con l D T o yX11_rest cX11_rest 4 (some .int) d 0 0 [.ref m, .int k] G I L (ax_pure G I L (.int (-1))) := by
  refine ax_enter (by decide +kernel) (Nat.le_of_ble_eq_true rfl) ?_
  intro p_ e_ s_ m_ args_ below_ meth_ c_ C _
  refine x_lvs (lv' := [(0, .ref m), (1, .int k)]) rfl ?_
  refine x_iload_n C (dk ddX11_rest 0 rfl) rfl ?_
  refine x_callS C (As := [.int k]) (k_X11_isShelf l D T o (d - 1) G I L k (by omega)) mlX11_419 ⟨by show d - 1 + 1 ≤ d; omega, by show 40 * (d - 1 + 1) ≤ 40 * d; omega⟩ ⟨Nat.le_refl _, Nat.le_refl _⟩ rfl (Nat.le_of_ble_eq_true rfl) (dk ddX11_rest 1 rfl) ?_
  rintro v_ G_ I_ L_ ⟨rfl, rfl, rfl, rfl⟩
  refine x_if_ne_b C (tgt := 9) (dk ddX11_rest 2 rfl) (by decide) (fun h4 => ?_) (fun h4 => ?_)
  · exfalso
    simp_all
  · refine x_iconst C (v := (-1)) (dk ddX11_rest 3 rfl) (by decide) ?_
    exact x_iret C rfl (ax_pure_i rfl) rfl rfl (dk ddX11_rest 4 rfl)
set_option maxRecDepth 20000 in
/-- rest of no element -/
theorem k_X11_rest_no (l : Launch) (D : va_G) (T : Nat → ClassId) (o d : Nat) (G : ax_G) (I : ax_I) (L : ax_L) (m k : Nat) (hM : ax_Mod G m) (hk : k < 4) (hh : I (m + 31) k < 0 ∨ nI 10 ≤ I (m + 31) k) (hd : 3 ≤ d) : ax_Con l D T o yX11_rest cX11_rest 4 (some .int) d 0 0 [.ref m, .int (nI k)] G I L (ax_pure G I L (.int (if I (m + 31) k < 0 then -11 else -13))) := by
  refine ax_enter (by decide +kernel) (Nat.le_of_ble_eq_true rfl) ?_
  intro p_ e_ s_ m_ args_ below_ meth_ c_ C _
  refine x_lvs (lv' := [(0, .ref m), (1, .int (nI k))]) rfl ?_
  refine x_iload_n C (dk ddX11_rest 0 rfl) rfl ?_
  refine x_callS C (As := [.int (nI k)]) (k_X11_isShelf l D T o (d - 1) G I L (nI k) (by omega)) mlX11_419 ⟨by show d - 1 + 1 ≤ d; omega, by show 40 * (d - 1 + 1) ≤ 40 * d; omega⟩ ⟨Nat.le_refl _, Nat.le_refl _⟩ rfl (Nat.le_of_ble_eq_true rfl) (dk ddX11_rest 1 rfl) ?_
  rintro v_ G_ I_ L_ ⟨rfl, rfl, rfl, rfl⟩
  rw [show (ax_in3 (nI k).toInt64 0 3) = true from ax_in3_ok (h := 3) (by omega) (by decide)]
  refine x_if_ne_b C (tgt := 9) (dk ddX11_rest 2 rfl) (by decide) (fun _ => ?_) (fun h_ => absurd h_ (by decide))
  refine x_aload_n C (dk ddX11_rest 5 rfl) rfl ?_
  refine x_getr C flX11_102 rfl (hM.lt (j := 0) (by decide)) hM.2.1 (show ax_R G m 43 = some (m + 31) from (hM.2.2 30 _ rfl).1) (dk ddX11_rest 6 rfl) ?_
  refine x_iload_n C (dk ddX11_rest 7 rfl) rfl ?_
  refine x_iald_n C (hM.lt (j := 31) (by decide)) (hM.2.2 30 _ rfl).2.1 (show ax_N G (m + 31) = 4 from (hM.2.2 30 _ rfl).2.2) (by omega) (by decide) (dk ddX11_rest 8 rfl) ?_
  refine x_if_lt C (tgt := 29) (dk ddX11_rest 9 rfl) (by decide) (fun h15 => ?_) (fun h15 => ?_)
  · have h15c := Int32.not_le.mpr h15
    refine x_aload_n C (dk ddX11_rest 16 rfl) rfl ?_
    refine x_getr C flX11_102 rfl (hM.lt (j := 0) (by decide)) hM.2.1 (show ax_R G m 43 = some (m + 31) from (hM.2.2 30 _ rfl).1) (dk ddX11_rest 17 rfl) ?_
    refine x_iload_n C (dk ddX11_rest 18 rfl) rfl ?_
    refine x_iald_n C (hM.lt (j := 31) (by decide)) (hM.2.2 30 _ rfl).2.1 (show ax_N G (m + 31) = 4 from (hM.2.2 30 _ rfl).2.2) (by omega) (by decide) (dk ddX11_rest 19 rfl) ?_
    refine x_if_ge C (tgt := 43) (dk ddX11_rest 20 rfl) (by decide) (fun h35 => ?_) (fun h35 => ?_)
    · have h35c := Int32.not_lt.mpr h35
      refine x_bipush C (v := (-13)) (dk ddX11_rest 23 rfl) (by decide) ?_
      exact x_iret C rfl (ax_pure_i (by rw [if_neg h35c])) rfl rfl (dk ddX11_rest 24 rfl)
    · have h35c := Int32.not_le.mp h35
      refine x_bipush C (v := (-11)) (dk ddX11_rest 21 rfl) (by decide) ?_
      refine x_goto C (tgt := 45) (dk ddX11_rest 22 rfl) (by decide) ?_
      exact x_iret C rfl (ax_pure_i (by rw [if_pos h35c])) rfl rfl (dk ddX11_rest 24 rfl)
  · have h15c := Int32.not_lt.mp h15
    refine x_aload_n C (dk ddX11_rest 10 rfl) rfl ?_
    refine x_getr C flX11_102 rfl (hM.lt (j := 0) (by decide)) hM.2.1 (show ax_R G m 43 = some (m + 31) from (hM.2.2 30 _ rfl).1) (dk ddX11_rest 11 rfl) ?_
    refine x_iload_n C (dk ddX11_rest 12 rfl) rfl ?_
    refine x_iald_n C (hM.lt (j := 31) (by decide)) (hM.2.2 30 _ rfl).2.1 (show ax_N G (m + 31) = 4 from (hM.2.2 30 _ rfl).2.2) (by omega) (by decide) (dk ddX11_rest 13 rfl) ?_
    refine x_bipush C (v := nI 10) (dk ddX11_rest 14 rfl) (by decide) ?_
    refine x_icmp_lt C (tgt := 46) (dk ddX11_rest 15 rfl) (by decide) (fun h26 => ?_) (fun h26 => ?_)
    · have h26c := Int32.not_le.mpr h26
      exfalso
      rcases hh with h | h
      · exact h15 h
      · exact absurd h (Int32.not_le.mpr h26)
    · have h26c := Int32.not_lt.mp h26
      refine x_aload_n C (dk ddX11_rest 16 rfl) rfl ?_
      refine x_getr C flX11_102 rfl (hM.lt (j := 0) (by decide)) hM.2.1 (show ax_R G m 43 = some (m + 31) from (hM.2.2 30 _ rfl).1) (dk ddX11_rest 17 rfl) ?_
      refine x_iload_n C (dk ddX11_rest 18 rfl) rfl ?_
      refine x_iald_n C (hM.lt (j := 31) (by decide)) (hM.2.2 30 _ rfl).2.1 (show ax_N G (m + 31) = 4 from (hM.2.2 30 _ rfl).2.2) (by omega) (by decide) (dk ddX11_rest 19 rfl) ?_
      refine x_if_ge C (tgt := 43) (dk ddX11_rest 20 rfl) (by decide) (fun h35 => ?_) (fun h35 => ?_)
      · have h35c := Int32.not_lt.mpr h35
        refine x_bipush C (v := (-13)) (dk ddX11_rest 23 rfl) (by decide) ?_
        exact x_iret C rfl (ax_pure_i (by rw [if_neg h35c])) rfl rfl (dk ddX11_rest 24 rfl)
      · have h35c := Int32.not_le.mp h35
        refine x_bipush C (v := (-11)) (dk ddX11_rest 21 rfl) (by decide) ?_
        refine x_goto C (tgt := 45) (dk ddX11_rest 22 rfl) (by decide) ?_
        exact x_iret C rfl (ax_pure_i (by rw [if_pos h35c])) rfl rfl (dk ddX11_rest 24 rfl)
set_option maxRecDepth 20000 in
/-- rest -/
theorem k_X11_rest (l : Launch) (D : va_G) (T : Nat → ClassId) (o d : Nat) (G : ax_G) (I : ax_I) (L : ax_L) (m k g rc wd fu : Nat) (S : Nat → Int32) (N : ax_L) (hM : ax_Mod G m) (hS : I (m + 1) = S) (hk : k < 4) (hh : I (m + 31) k = nI g) (hg : g < 6) (hn : S (14 * g) = nI wd) (hw : wd ≤ 3) (hr : S (14 * g + 1) = nI rc) (hr4 : rc ≤ 4) (hN : ax_N1 m g (m + 5) wd rc fu S L = some N) (hd : 5 ≤ d) : ax_Con l D T o yX11_rest cX11_rest 4 (some .int) d 0 0 [.ref m, .int (nI k)] G I L (fun v G' I' L' => v = some (.int (an_down (if 0 < wd then (ax_rs (m + 16) (m + 5) 0 wd (ax_st (m + 16) wd (N (m + 33) (3 * k)) (N (m + 33) (3 * k + 1)) (N (m + 33) (3 * k + 2)) N)) (m + 16) 0 else (ax_rs (m + 16) (m + 5) 0 wd (ax_st (m + 16) wd (N (m + 33) (3 * k)) (N (m + 33) (3 * k + 1)) (N (m + 33) (3 * k + 2)) N)) (m + 33) (3 * k)) (if 1 < wd then (ax_rs (m + 16) (m + 5) 0 wd (ax_st (m + 16) wd (N (m + 33) (3 * k)) (N (m + 33) (3 * k + 1)) (N (m + 33) (3 * k + 2)) N)) (m + 16) 1 else (ax_rs (m + 16) (m + 5) 0 wd (ax_st (m + 16) wd (N (m + 33) (3 * k)) (N (m + 33) (3 * k + 1)) (N (m + 33) (3 * k + 2)) N)) (m + 33) (3 * k + 1)) (if 2 < wd then (ax_rs (m + 16) (m + 5) 0 wd (ax_st (m + 16) wd (N (m + 33) (3 * k)) (N (m + 33) (3 * k + 1)) (N (m + 33) (3 * k + 2)) N)) (m + 16) 2 else (ax_rs (m + 16) (m + 5) 0 wd (ax_st (m + 16) wd (N (m + 33) (3 * k)) (N (m + 33) (3 * k + 1)) (N (m + 33) (3 * k + 2)) N)) (m + 33) (3 * k + 2)))) ∧ G = G' ∧ ax_u I m 6 (nI rc) = I' ∧ ne_down (m + 33) k (if 0 < wd then (ax_rs (m + 16) (m + 5) 0 wd (ax_st (m + 16) wd (N (m + 33) (3 * k)) (N (m + 33) (3 * k + 1)) (N (m + 33) (3 * k + 2)) N)) (m + 16) 0 else (ax_rs (m + 16) (m + 5) 0 wd (ax_st (m + 16) wd (N (m + 33) (3 * k)) (N (m + 33) (3 * k + 1)) (N (m + 33) (3 * k + 2)) N)) (m + 33) (3 * k)) (if 1 < wd then (ax_rs (m + 16) (m + 5) 0 wd (ax_st (m + 16) wd (N (m + 33) (3 * k)) (N (m + 33) (3 * k + 1)) (N (m + 33) (3 * k + 2)) N)) (m + 16) 1 else (ax_rs (m + 16) (m + 5) 0 wd (ax_st (m + 16) wd (N (m + 33) (3 * k)) (N (m + 33) (3 * k + 1)) (N (m + 33) (3 * k + 2)) N)) (m + 33) (3 * k + 1)) (if 2 < wd then (ax_rs (m + 16) (m + 5) 0 wd (ax_st (m + 16) wd (N (m + 33) (3 * k)) (N (m + 33) (3 * k + 1)) (N (m + 33) (3 * k + 2)) N)) (m + 16) 2 else (ax_rs (m + 16) (m + 5) 0 wd (ax_st (m + 16) wd (N (m + 33) (3 * k)) (N (m + 33) (3 * k + 1)) (N (m + 33) (3 * k + 2)) N)) (m + 33) (3 * k + 2)) (ax_rs (m + 16) (m + 5) 0 wd (ax_st (m + 16) wd (N (m + 33) (3 * k)) (N (m + 33) (3 * k + 1)) (N (m + 33) (3 * k + 2)) N)) = L') := by
  refine ax_enter (by decide +kernel) (Nat.le_of_ble_eq_true rfl) ?_
  intro p_ e_ s_ m_ args_ below_ meth_ c_ C _
  refine x_lvs (lv' := [(0, .ref m), (1, .int (nI k))]) rfl ?_
  refine x_iload_n C (dk ddX11_rest 0 rfl) rfl ?_
  refine x_callS C (As := [.int (nI k)]) (k_X11_isShelf l D T o (d - 1) G I L (nI k) (by omega)) mlX11_419 ⟨by show d - 1 + 1 ≤ d; omega, by show 40 * (d - 1 + 1) ≤ 40 * d; omega⟩ ⟨Nat.le_refl _, Nat.le_refl _⟩ rfl (Nat.le_of_ble_eq_true rfl) (dk ddX11_rest 1 rfl) ?_
  rintro v_ G_ I_ L_ ⟨rfl, rfl, rfl, rfl⟩
  rw [show (ax_in3 (nI k).toInt64 0 3) = true from ax_in3_ok (h := 3) (by omega) (by decide)]
  refine x_if_ne_b C (tgt := 9) (dk ddX11_rest 2 rfl) (by decide) (fun _ => ?_) (fun h_ => absurd h_ (by decide))
  refine x_aload_n C (dk ddX11_rest 5 rfl) rfl ?_
  refine x_getr C flX11_102 rfl (hM.lt (j := 0) (by decide)) hM.2.1 (show ax_R G m 43 = some (m + 31) from (hM.2.2 30 _ rfl).1) (dk ddX11_rest 6 rfl) ?_
  refine x_iload_n C (dk ddX11_rest 7 rfl) rfl ?_
  refine x_iald_n C (hM.lt (j := 31) (by decide)) (hM.2.2 30 _ rfl).2.1 (show ax_N G (m + 31) = 4 from (hM.2.2 30 _ rfl).2.2) (by omega) (by decide) (dk ddX11_rest 8 rfl) ?_
  rw [show (I (m + 31) k) = nI g from hh]
  refine x_if_lt_n C (tgt := 29) (dk ddX11_rest 9 rfl) (by decide) (by omega) (fun h15 => ?_) (fun h15 => ?_)
  · exfalso
    omega
  · refine x_aload_n C (dk ddX11_rest 10 rfl) rfl ?_
    refine x_getr C flX11_102 rfl (hM.lt (j := 0) (by decide)) hM.2.1 (show ax_R G m 43 = some (m + 31) from (hM.2.2 30 _ rfl).1) (dk ddX11_rest 11 rfl) ?_
    refine x_iload_n C (dk ddX11_rest 12 rfl) rfl ?_
    refine x_iald_n C (hM.lt (j := 31) (by decide)) (hM.2.2 30 _ rfl).2.1 (show ax_N G (m + 31) = 4 from (hM.2.2 30 _ rfl).2.2) (by omega) (by decide) (dk ddX11_rest 13 rfl) ?_
    rw [show (I (m + 31) k) = nI g from hh]
    refine x_bipush C (v := nI 10) (dk ddX11_rest 14 rfl) (by decide) ?_
    refine x_icmp_lt_n C (tgt := 46) (dk ddX11_rest 15 rfl) (by decide) (by omega) (by decide) (fun h26 => ?_) (fun h26 => ?_)
    · refine x_aload_n C (dk ddX11_rest 25 rfl) rfl ?_
      refine x_getr C flX11_102 rfl (hM.lt (j := 0) (by decide)) hM.2.1 (show ax_R G m 43 = some (m + 31) from (hM.2.2 30 _ rfl).1) (dk ddX11_rest 26 rfl) ?_
      refine x_iload_n C (dk ddX11_rest 27 rfl) rfl ?_
      refine x_iald_n C (hM.lt (j := 31) (by decide)) (hM.2.2 30 _ rfl).2.1 (show ax_N G (m + 31) = 4 from (hM.2.2 30 _ rfl).2.2) (by omega) (by decide) (dk ddX11_rest 28 rfl) ?_
      rw [show (I (m + 31) k) = nI g from hh]
      refine x_istore_n C (lv' := [(2, .int (nI g)), (0, .ref m), (1, .int (nI k))]) (dk ddX11_rest 29 rfl) (by decide) rfl ?_
      refine x_aload_n C (dk ddX11_rest 30 rfl) rfl ?_
      refine x_iload_n C (dk ddX11_rest 31 rfl) rfl ?_
      refine x_callV C (ci := 11) (As := [.int (nI g)]) (k_X11_size l D T o (d - 1) G I L m g hM (by omega)) mlX11_162 rfl rfl (hM.lt (j := 0) (by decide)) hM.2.1 ⟨by show d - 1 + 1 ≤ d; omega, by show 40 * (d - 1 + 1) ≤ 40 * d; omega⟩ ⟨Nat.le_refl _, Nat.le_refl _⟩ rfl (Nat.le_of_ble_eq_true rfl) (dk ddX11_rest 32 rfl) ?_
      rintro v_ G_ I_ L_ ⟨rfl, rfl, rfl, rfl⟩
      rw [show I (m + 1) (14 * g) = nI wd from ((congrFun hS _).trans hn)]
      refine x_istore_n C (lv' := [(3, .int (nI wd)), (2, .int (nI g)), (0, .ref m), (1, .int (nI k))]) (dk ddX11_rest 33 rfl) (by decide) rfl ?_
      refine x_aload_n C (dk ddX11_rest 34 rfl) rfl ?_
      refine x_iload_n C (dk ddX11_rest 35 rfl) rfl ?_
      refine x_aload_n C (dk ddX11_rest 36 rfl) rfl ?_
      refine x_getr C flX11_23 rfl (hM.lt (j := 0) (by decide)) hM.2.1 (show ax_R G m 7 = some (m + 5) from (hM.2.2 4 _ rfl).1) (dk ddX11_rest 37 rfl) ?_
      refine x_callV C (ci := 11) (As := [.int (nI g), .ref (m + 5)]) (k_X11_nothingOf l D T o (d - 1) G I L m g (m + 5) wd rc fu S N hM hS hg hn hw hr hr4 ⟨(hM.lt (j := 5) (by decide)), (hM.2.2 4 _ rfl).2.1, (show ax_N G (m + 5) = 36 from (hM.2.2 4 _ rfl).2.2)⟩ (by omega) hN (by omega)) mlX11_188 rfl rfl (hM.lt (j := 0) (by decide)) hM.2.1 ⟨by show d - 1 + 1 ≤ d; omega, by show 40 * (d - 1 + 1) ≤ 40 * d; omega⟩ ⟨Nat.le_refl _, Nat.le_refl _⟩ rfl (Nat.le_of_ble_eq_true rfl) (dk ddX11_rest 38 rfl) ?_
      rintro v_ G_ I_ L_ ⟨rfl, rfl, rfl, rfl⟩
      refine x_aload_n C (dk ddX11_rest 39 rfl) rfl ?_
      refine x_aload_n C (dk ddX11_rest 40 rfl) rfl ?_
      refine x_getr C flX11_56 rfl (hM.lt (j := 0) (by decide)) hM.2.1 (show ax_R G m 22 = some (m + 16) from (hM.2.2 15 _ rfl).1) (dk ddX11_rest 41 rfl) ?_
      refine x_aload_n C (dk ddX11_rest 42 rfl) rfl ?_
      refine x_getr C flX11_108 rfl (hM.lt (j := 0) (by decide)) hM.2.1 (show ax_R G m 45 = some (m + 33) from (hM.2.2 32 _ rfl).1) (dk ddX11_rest 43 rfl) ?_
      refine x_iconst C (v := nI 3) (dk ddX11_rest 44 rfl) (by decide) ?_
      refine x_iload_n C (dk ddX11_rest 45 rfl) rfl ?_
      refine x_imul_n C (dk ddX11_rest 46 rfl) ?_
      refine x_lald_n C (hM.lt (j := 33) (by decide)) (hM.2.2 32 _ rfl).2.1 (show ax_N G (m + 33) = 12 from (hM.2.2 32 _ rfl).2.2) (by omega) (by decide) (dk ddX11_rest 47 rfl) ?_
      refine x_aload_n C (dk ddX11_rest 48 rfl) rfl ?_
      refine x_getr C flX11_108 rfl (hM.lt (j := 0) (by decide)) hM.2.1 (show ax_R G m 45 = some (m + 33) from (hM.2.2 32 _ rfl).1) (dk ddX11_rest 49 rfl) ?_
      refine x_iconst C (v := nI 3) (dk ddX11_rest 50 rfl) (by decide) ?_
      refine x_iload_n C (dk ddX11_rest 51 rfl) rfl ?_
      refine x_imul_n C (dk ddX11_rest 52 rfl) ?_
      refine x_iconst C (v := nI 1) (dk ddX11_rest 53 rfl) (by decide) ?_
      refine x_iadd_n C (dk ddX11_rest 54 rfl) ?_
      refine x_lald_n C (hM.lt (j := 33) (by decide)) (hM.2.2 32 _ rfl).2.1 (show ax_N G (m + 33) = 12 from (hM.2.2 32 _ rfl).2.2) (by omega) (by decide) (dk ddX11_rest 55 rfl) ?_
      refine x_aload_n C (dk ddX11_rest 56 rfl) rfl ?_
      refine x_getr C flX11_108 rfl (hM.lt (j := 0) (by decide)) hM.2.1 (show ax_R G m 45 = some (m + 33) from (hM.2.2 32 _ rfl).1) (dk ddX11_rest 57 rfl) ?_
      refine x_iconst C (v := nI 3) (dk ddX11_rest 58 rfl) (by decide) ?_
      refine x_iload_n C (dk ddX11_rest 59 rfl) rfl ?_
      refine x_imul_n C (dk ddX11_rest 60 rfl) ?_
      refine x_iconst C (v := nI 2) (dk ddX11_rest 61 rfl) (by decide) ?_
      refine x_iadd_n C (dk ddX11_rest 62 rfl) ?_
      refine x_lald_n C (hM.lt (j := 33) (by decide)) (hM.2.2 32 _ rfl).2.1 (show ax_N G (m + 33) = 12 from (hM.2.2 32 _ rfl).2.2) (by omega) (by decide) (dk ddX11_rest 63 rfl) ?_
      refine x_iload_n C (dk ddX11_rest 64 rfl) rfl ?_
      refine x_callV C (ci := 11) (As := [.ref (m + 16), .long (N (m + 33) (3 * k)), .long (N (m + 33) (3 * k + 1)), .long (N (m + 33) (3 * k + 2)), .int (nI wd)]) (k_X11_sets l D T o (d - 1) G (ax_u I m 6 (nI rc)) N m (m + 16) wd (N (m + 33) (3 * k)) (N (m + 33) (3 * k + 1)) (N (m + 33) (3 * k + 2)) ⟨(hM.lt (j := 16) (by decide)), (hM.2.2 15 _ rfl).2.1, (show ax_N G (m + 16) = 6 from (hM.2.2 15 _ rfl).2.2)⟩ (by omega)) mlX11_184 rfl rfl (hM.lt (j := 0) (by decide)) hM.2.1 ⟨by show d - 1 + 1 ≤ d; omega, by show 40 * (d - 1 + 1) ≤ 40 * d; omega⟩ ⟨Nat.le_refl _, Nat.le_refl _⟩ rfl (Nat.le_of_ble_eq_true rfl) (dk ddX11_rest 65 rfl) ?_
      rintro v_ G_ I_ L_ ⟨rfl, rfl, rfl, rfl⟩
      refine x_aload_n C (dk ddX11_rest 66 rfl) rfl ?_
      refine x_getr C flX11_56 rfl (hM.lt (j := 0) (by decide)) hM.2.1 (show ax_R G m 22 = some (m + 16) from (hM.2.2 15 _ rfl).1) (dk ddX11_rest 67 rfl) ?_
      refine x_aload_n C (dk ddX11_rest 68 rfl) rfl ?_
      refine x_getr C flX11_23 rfl (hM.lt (j := 0) (by decide)) hM.2.1 (show ax_R G m 7 = some (m + 5) from (hM.2.2 4 _ rfl).1) (dk ddX11_rest 69 rfl) ?_
      refine x_iconst C (v := nI 0) (dk ddX11_rest 70 rfl) (by decide) ?_
      refine x_iload_n C (dk ddX11_rest 71 rfl) rfl ?_
      refine x_callS C (As := [.ref (m + 16), .ref (m + 5), .int (nI 0), .int (nI wd)]) (k_X11_rests l D T o (d - 1) G (ax_u I m 6 (nI rc)) (ax_st (m + 16) wd (N (m + 33) (3 * k)) (N (m + 33) (3 * k + 1)) (N (m + 33) (3 * k + 2)) N) (m + 16) (m + 5) 0 wd 6 ⟨(hM.lt (j := 16) (by decide)), (hM.2.2 15 _ rfl).2.1, (show ax_N G (m + 16) = 6 from (hM.2.2 15 _ rfl).2.2)⟩ (by decide) (by decide) ⟨(hM.lt (j := 5) (by decide)), (hM.2.2 4 _ rfl).2.1, (show ax_N G (m + 5) = 36 from (hM.2.2 4 _ rfl).2.2)⟩ (by omega) (by omega) (by omega)) mlX11_195 ⟨by show d - 1 + 1 ≤ d; omega, by show 40 * (d - 1 + 1) ≤ 40 * d; omega⟩ ⟨Nat.le_refl _, Nat.le_refl _⟩ rfl (Nat.le_of_ble_eq_true rfl) (dk ddX11_rest 72 rfl) ?_
      rintro v_ G_ I_ L_ ⟨rfl, rfl, rfl, rfl⟩
      refine x_aload_n C (dk ddX11_rest 73 rfl) rfl ?_
      refine x_iload_n C (dk ddX11_rest 74 rfl) rfl ?_
      refine x_iload_n C (dk ddX11_rest 75 rfl) rfl ?_
      refine x_if_le_n C (tgt := 133) (dk ddX11_rest 76 rfl) (by decide) (by omega) (fun h121 => ?_) (fun h121 => ?_)
      · refine x_aload_n C (dk ddX11_rest 82 rfl) rfl ?_
        refine x_getr C flX11_108 rfl (hM.lt (j := 0) (by decide)) hM.2.1 (show ax_R G m 45 = some (m + 33) from (hM.2.2 32 _ rfl).1) (dk ddX11_rest 83 rfl) ?_
        refine x_iconst C (v := nI 3) (dk ddX11_rest 84 rfl) (by decide) ?_
        refine x_iload_n C (dk ddX11_rest 85 rfl) rfl ?_
        refine x_imul_n C (dk ddX11_rest 86 rfl) ?_
        refine x_lald_n C (hM.lt (j := 33) (by decide)) (hM.2.2 32 _ rfl).2.1 (show ax_N G (m + 33) = 12 from (hM.2.2 32 _ rfl).2.2) (by omega) (by decide) (dk ddX11_rest 87 rfl) ?_
        refine x_iload_n C (dk ddX11_rest 88 rfl) rfl ?_
        refine x_iconst C (v := nI 1) (dk ddX11_rest 89 rfl) (by decide) ?_
        refine x_icmp_le_n C (tgt := 155) (dk ddX11_rest 90 rfl) (by decide) (by omega) (by decide) (fun h143 => ?_) (fun h143 => ?_)
        · refine x_aload_n C (dk ddX11_rest 96 rfl) rfl ?_
          refine x_getr C flX11_108 rfl (hM.lt (j := 0) (by decide)) hM.2.1 (show ax_R G m 45 = some (m + 33) from (hM.2.2 32 _ rfl).1) (dk ddX11_rest 97 rfl) ?_
          refine x_iconst C (v := nI 3) (dk ddX11_rest 98 rfl) (by decide) ?_
          refine x_iload_n C (dk ddX11_rest 99 rfl) rfl ?_
          refine x_imul_n C (dk ddX11_rest_p1 0 rfl) ?_
          refine x_iconst C (v := nI 1) (dk ddX11_rest_p1 1 rfl) (by decide) ?_
          refine x_iadd_n C (dk ddX11_rest_p1 2 rfl) ?_
          refine x_lald_n C (hM.lt (j := 33) (by decide)) (hM.2.2 32 _ rfl).2.1 (show ax_N G (m + 33) = 12 from (hM.2.2 32 _ rfl).2.2) (by omega) (by decide) (dk ddX11_rest_p1 3 rfl) ?_
          refine x_iload_n C (dk ddX11_rest_p1 4 rfl) rfl ?_
          refine x_iconst C (v := nI 2) (dk ddX11_rest_p1 5 rfl) (by decide) ?_
          refine x_icmp_le_n C (tgt := 179) (dk ddX11_rest_p1 6 rfl) (by decide) (by omega) (by decide) (fun h167 => ?_) (fun h167 => ?_)
          · refine x_aload_n C (dk ddX11_rest_p1 12 rfl) rfl ?_
            refine x_getr C flX11_108 rfl (hM.lt (j := 0) (by decide)) hM.2.1 (show ax_R G m 45 = some (m + 33) from (hM.2.2 32 _ rfl).1) (dk ddX11_rest_p1 13 rfl) ?_
            refine x_iconst C (v := nI 3) (dk ddX11_rest_p1 14 rfl) (by decide) ?_
            refine x_iload_n C (dk ddX11_rest_p1 15 rfl) rfl ?_
            refine x_imul_n C (dk ddX11_rest_p1 16 rfl) ?_
            refine x_iconst C (v := nI 2) (dk ddX11_rest_p1 17 rfl) (by decide) ?_
            refine x_iadd_n C (dk ddX11_rest_p1 18 rfl) ?_
            refine x_lald_n C (hM.lt (j := 33) (by decide)) (hM.2.2 32 _ rfl).2.1 (show ax_N G (m + 33) = 12 from (hM.2.2 32 _ rfl).2.2) (by omega) (by decide) (dk ddX11_rest_p1 19 rfl) ?_
            refine x_callV C (ci := 11) (As := [.int (nI k), .long ((ax_rs (m + 16) (m + 5) 0 (wd) (ax_st (m + 16) wd (N (m + 33) (3 * k)) (N (m + 33) (3 * k + 1)) (N (m + 33) (3 * k + 2)) N)) (m + 33) (3 * k)), .long ((ax_rs (m + 16) (m + 5) 0 (wd) (ax_st (m + 16) wd (N (m + 33) (3 * k)) (N (m + 33) (3 * k + 1)) (N (m + 33) (3 * k + 2)) N)) (m + 33) (3 * k + 1)), .long ((ax_rs (m + 16) (m + 5) 0 (wd) (ax_st (m + 16) wd (N (m + 33) (3 * k)) (N (m + 33) (3 * k + 1)) (N (m + 33) (3 * k + 2)) N)) (m + 33) (3 * k + 2))]) (k_X11_laysDown l D T o (d - 1) G (ax_u I m 6 (nI rc)) (ax_rs (m + 16) (m + 5) 0 (wd) (ax_st (m + 16) wd (N (m + 33) (3 * k)) (N (m + 33) (3 * k + 1)) (N (m + 33) (3 * k + 2)) N)) m k ((ax_rs (m + 16) (m + 5) 0 (wd) (ax_st (m + 16) wd (N (m + 33) (3 * k)) (N (m + 33) (3 * k + 1)) (N (m + 33) (3 * k + 2)) N)) (m + 33) (3 * k)) ((ax_rs (m + 16) (m + 5) 0 (wd) (ax_st (m + 16) wd (N (m + 33) (3 * k)) (N (m + 33) (3 * k + 1)) (N (m + 33) (3 * k + 2)) N)) (m + 33) (3 * k + 1)) ((ax_rs (m + 16) (m + 5) 0 (wd) (ax_st (m + 16) wd (N (m + 33) (3 * k)) (N (m + 33) (3 * k + 1)) (N (m + 33) (3 * k + 2)) N)) (m + 33) (3 * k + 2)) hM (by omega) (by omega)) mlX11_422 rfl rfl (hM.lt (j := 0) (by decide)) hM.2.1 ⟨by show d - 1 + 1 ≤ d; omega, by show 40 * (d - 1 + 1) ≤ 40 * d; omega⟩ ⟨Nat.le_refl _, Nat.le_refl _⟩ rfl (Nat.le_of_ble_eq_true rfl) (dk ddX11_rest_p1 20 rfl) ?_
            rintro v_ G_ I_ L_ ⟨rfl, rfl, rfl, rfl⟩
            exact x_iret C rfl ⟨by rw [if_neg (by omega : ¬ 0 < wd), if_neg (by omega : ¬ 1 < wd), if_neg (by omega : ¬ 2 < wd)], rfl, rfl, by rw [if_neg (by omega : ¬ 0 < wd), if_neg (by omega : ¬ 1 < wd), if_neg (by omega : ¬ 2 < wd)]⟩ rfl rfl (dk ddX11_rest_p1 21 rfl)
          · refine x_aload_n C (dk ddX11_rest_p1 7 rfl) rfl ?_
            refine x_getr C flX11_56 rfl (hM.lt (j := 0) (by decide)) hM.2.1 (show ax_R G m 22 = some (m + 16) from (hM.2.2 15 _ rfl).1) (dk ddX11_rest_p1 8 rfl) ?_
            refine x_iconst C (v := nI 2) (dk ddX11_rest_p1 9 rfl) (by decide) ?_
            refine x_lald_n C (hM.lt (j := 16) (by decide)) (hM.2.2 15 _ rfl).2.1 (show ax_N G (m + 16) = 6 from (hM.2.2 15 _ rfl).2.2) (by decide) (by decide) (dk ddX11_rest_p1 10 rfl) ?_
            refine x_goto C (tgt := 189) (dk ddX11_rest_p1 11 rfl) (by decide) ?_
            refine x_callV C (ci := 11) (As := [.int (nI k), .long ((ax_rs (m + 16) (m + 5) 0 (wd) (ax_st (m + 16) wd (N (m + 33) (3 * k)) (N (m + 33) (3 * k + 1)) (N (m + 33) (3 * k + 2)) N)) (m + 33) (3 * k)), .long ((ax_rs (m + 16) (m + 5) 0 (wd) (ax_st (m + 16) wd (N (m + 33) (3 * k)) (N (m + 33) (3 * k + 1)) (N (m + 33) (3 * k + 2)) N)) (m + 33) (3 * k + 1)), .long ((ax_rs (m + 16) (m + 5) 0 (wd) (ax_st (m + 16) wd (N (m + 33) (3 * k)) (N (m + 33) (3 * k + 1)) (N (m + 33) (3 * k + 2)) N)) (m + 16) 2)]) (k_X11_laysDown l D T o (d - 1) G (ax_u I m 6 (nI rc)) (ax_rs (m + 16) (m + 5) 0 (wd) (ax_st (m + 16) wd (N (m + 33) (3 * k)) (N (m + 33) (3 * k + 1)) (N (m + 33) (3 * k + 2)) N)) m k ((ax_rs (m + 16) (m + 5) 0 (wd) (ax_st (m + 16) wd (N (m + 33) (3 * k)) (N (m + 33) (3 * k + 1)) (N (m + 33) (3 * k + 2)) N)) (m + 33) (3 * k)) ((ax_rs (m + 16) (m + 5) 0 (wd) (ax_st (m + 16) wd (N (m + 33) (3 * k)) (N (m + 33) (3 * k + 1)) (N (m + 33) (3 * k + 2)) N)) (m + 33) (3 * k + 1)) ((ax_rs (m + 16) (m + 5) 0 (wd) (ax_st (m + 16) wd (N (m + 33) (3 * k)) (N (m + 33) (3 * k + 1)) (N (m + 33) (3 * k + 2)) N)) (m + 16) 2) hM (by omega) (by omega)) mlX11_422 rfl rfl (hM.lt (j := 0) (by decide)) hM.2.1 ⟨by show d - 1 + 1 ≤ d; omega, by show 40 * (d - 1 + 1) ≤ 40 * d; omega⟩ ⟨Nat.le_refl _, Nat.le_refl _⟩ rfl (Nat.le_of_ble_eq_true rfl) (dk ddX11_rest_p1 20 rfl) ?_
            rintro v_ G_ I_ L_ ⟨rfl, rfl, rfl, rfl⟩
            exact x_iret C rfl ⟨by rw [if_neg (by omega : ¬ 0 < wd), if_neg (by omega : ¬ 1 < wd), if_pos (by omega : 2 < wd)], rfl, rfl, by rw [if_neg (by omega : ¬ 0 < wd), if_neg (by omega : ¬ 1 < wd), if_pos (by omega : 2 < wd)]⟩ rfl rfl (dk ddX11_rest_p1 21 rfl)
        · refine x_aload_n C (dk ddX11_rest 91 rfl) rfl ?_
          refine x_getr C flX11_56 rfl (hM.lt (j := 0) (by decide)) hM.2.1 (show ax_R G m 22 = some (m + 16) from (hM.2.2 15 _ rfl).1) (dk ddX11_rest 92 rfl) ?_
          refine x_iconst C (v := nI 1) (dk ddX11_rest 93 rfl) (by decide) ?_
          refine x_lald_n C (hM.lt (j := 16) (by decide)) (hM.2.2 15 _ rfl).2.1 (show ax_N G (m + 16) = 6 from (hM.2.2 15 _ rfl).2.2) (by decide) (by decide) (dk ddX11_rest 94 rfl) ?_
          refine x_goto C (tgt := 165) (dk ddX11_rest 95 rfl) (by decide) ?_
          refine x_iload_n C (dk ddX11_rest_p1 4 rfl) rfl ?_
          refine x_iconst C (v := nI 2) (dk ddX11_rest_p1 5 rfl) (by decide) ?_
          refine x_icmp_le_n C (tgt := 179) (dk ddX11_rest_p1 6 rfl) (by decide) (by omega) (by decide) (fun h167 => ?_) (fun h167 => ?_)
          · refine x_aload_n C (dk ddX11_rest_p1 12 rfl) rfl ?_
            refine x_getr C flX11_108 rfl (hM.lt (j := 0) (by decide)) hM.2.1 (show ax_R G m 45 = some (m + 33) from (hM.2.2 32 _ rfl).1) (dk ddX11_rest_p1 13 rfl) ?_
            refine x_iconst C (v := nI 3) (dk ddX11_rest_p1 14 rfl) (by decide) ?_
            refine x_iload_n C (dk ddX11_rest_p1 15 rfl) rfl ?_
            refine x_imul_n C (dk ddX11_rest_p1 16 rfl) ?_
            refine x_iconst C (v := nI 2) (dk ddX11_rest_p1 17 rfl) (by decide) ?_
            refine x_iadd_n C (dk ddX11_rest_p1 18 rfl) ?_
            refine x_lald_n C (hM.lt (j := 33) (by decide)) (hM.2.2 32 _ rfl).2.1 (show ax_N G (m + 33) = 12 from (hM.2.2 32 _ rfl).2.2) (by omega) (by decide) (dk ddX11_rest_p1 19 rfl) ?_
            refine x_callV C (ci := 11) (As := [.int (nI k), .long ((ax_rs (m + 16) (m + 5) 0 (wd) (ax_st (m + 16) wd (N (m + 33) (3 * k)) (N (m + 33) (3 * k + 1)) (N (m + 33) (3 * k + 2)) N)) (m + 33) (3 * k)), .long ((ax_rs (m + 16) (m + 5) 0 (wd) (ax_st (m + 16) wd (N (m + 33) (3 * k)) (N (m + 33) (3 * k + 1)) (N (m + 33) (3 * k + 2)) N)) (m + 16) 1), .long ((ax_rs (m + 16) (m + 5) 0 (wd) (ax_st (m + 16) wd (N (m + 33) (3 * k)) (N (m + 33) (3 * k + 1)) (N (m + 33) (3 * k + 2)) N)) (m + 33) (3 * k + 2))]) (k_X11_laysDown l D T o (d - 1) G (ax_u I m 6 (nI rc)) (ax_rs (m + 16) (m + 5) 0 (wd) (ax_st (m + 16) wd (N (m + 33) (3 * k)) (N (m + 33) (3 * k + 1)) (N (m + 33) (3 * k + 2)) N)) m k ((ax_rs (m + 16) (m + 5) 0 (wd) (ax_st (m + 16) wd (N (m + 33) (3 * k)) (N (m + 33) (3 * k + 1)) (N (m + 33) (3 * k + 2)) N)) (m + 33) (3 * k)) ((ax_rs (m + 16) (m + 5) 0 (wd) (ax_st (m + 16) wd (N (m + 33) (3 * k)) (N (m + 33) (3 * k + 1)) (N (m + 33) (3 * k + 2)) N)) (m + 16) 1) ((ax_rs (m + 16) (m + 5) 0 (wd) (ax_st (m + 16) wd (N (m + 33) (3 * k)) (N (m + 33) (3 * k + 1)) (N (m + 33) (3 * k + 2)) N)) (m + 33) (3 * k + 2)) hM (by omega) (by omega)) mlX11_422 rfl rfl (hM.lt (j := 0) (by decide)) hM.2.1 ⟨by show d - 1 + 1 ≤ d; omega, by show 40 * (d - 1 + 1) ≤ 40 * d; omega⟩ ⟨Nat.le_refl _, Nat.le_refl _⟩ rfl (Nat.le_of_ble_eq_true rfl) (dk ddX11_rest_p1 20 rfl) ?_
            rintro v_ G_ I_ L_ ⟨rfl, rfl, rfl, rfl⟩
            exact x_iret C rfl ⟨by rw [if_neg (by omega : ¬ 0 < wd), if_pos (by omega : 1 < wd), if_neg (by omega : ¬ 2 < wd)], rfl, rfl, by rw [if_neg (by omega : ¬ 0 < wd), if_pos (by omega : 1 < wd), if_neg (by omega : ¬ 2 < wd)]⟩ rfl rfl (dk ddX11_rest_p1 21 rfl)
          · refine x_aload_n C (dk ddX11_rest_p1 7 rfl) rfl ?_
            refine x_getr C flX11_56 rfl (hM.lt (j := 0) (by decide)) hM.2.1 (show ax_R G m 22 = some (m + 16) from (hM.2.2 15 _ rfl).1) (dk ddX11_rest_p1 8 rfl) ?_
            refine x_iconst C (v := nI 2) (dk ddX11_rest_p1 9 rfl) (by decide) ?_
            refine x_lald_n C (hM.lt (j := 16) (by decide)) (hM.2.2 15 _ rfl).2.1 (show ax_N G (m + 16) = 6 from (hM.2.2 15 _ rfl).2.2) (by decide) (by decide) (dk ddX11_rest_p1 10 rfl) ?_
            refine x_goto C (tgt := 189) (dk ddX11_rest_p1 11 rfl) (by decide) ?_
            refine x_callV C (ci := 11) (As := [.int (nI k), .long ((ax_rs (m + 16) (m + 5) 0 (wd) (ax_st (m + 16) wd (N (m + 33) (3 * k)) (N (m + 33) (3 * k + 1)) (N (m + 33) (3 * k + 2)) N)) (m + 33) (3 * k)), .long ((ax_rs (m + 16) (m + 5) 0 (wd) (ax_st (m + 16) wd (N (m + 33) (3 * k)) (N (m + 33) (3 * k + 1)) (N (m + 33) (3 * k + 2)) N)) (m + 16) 1), .long ((ax_rs (m + 16) (m + 5) 0 (wd) (ax_st (m + 16) wd (N (m + 33) (3 * k)) (N (m + 33) (3 * k + 1)) (N (m + 33) (3 * k + 2)) N)) (m + 16) 2)]) (k_X11_laysDown l D T o (d - 1) G (ax_u I m 6 (nI rc)) (ax_rs (m + 16) (m + 5) 0 (wd) (ax_st (m + 16) wd (N (m + 33) (3 * k)) (N (m + 33) (3 * k + 1)) (N (m + 33) (3 * k + 2)) N)) m k ((ax_rs (m + 16) (m + 5) 0 (wd) (ax_st (m + 16) wd (N (m + 33) (3 * k)) (N (m + 33) (3 * k + 1)) (N (m + 33) (3 * k + 2)) N)) (m + 33) (3 * k)) ((ax_rs (m + 16) (m + 5) 0 (wd) (ax_st (m + 16) wd (N (m + 33) (3 * k)) (N (m + 33) (3 * k + 1)) (N (m + 33) (3 * k + 2)) N)) (m + 16) 1) ((ax_rs (m + 16) (m + 5) 0 (wd) (ax_st (m + 16) wd (N (m + 33) (3 * k)) (N (m + 33) (3 * k + 1)) (N (m + 33) (3 * k + 2)) N)) (m + 16) 2) hM (by omega) (by omega)) mlX11_422 rfl rfl (hM.lt (j := 0) (by decide)) hM.2.1 ⟨by show d - 1 + 1 ≤ d; omega, by show 40 * (d - 1 + 1) ≤ 40 * d; omega⟩ ⟨Nat.le_refl _, Nat.le_refl _⟩ rfl (Nat.le_of_ble_eq_true rfl) (dk ddX11_rest_p1 20 rfl) ?_
            rintro v_ G_ I_ L_ ⟨rfl, rfl, rfl, rfl⟩
            exact x_iret C rfl ⟨by rw [if_neg (by omega : ¬ 0 < wd), if_pos (by omega : 1 < wd), if_pos (by omega : 2 < wd)], rfl, rfl, by rw [if_neg (by omega : ¬ 0 < wd), if_pos (by omega : 1 < wd), if_pos (by omega : 2 < wd)]⟩ rfl rfl (dk ddX11_rest_p1 21 rfl)
      · refine x_aload_n C (dk ddX11_rest 77 rfl) rfl ?_
        refine x_getr C flX11_56 rfl (hM.lt (j := 0) (by decide)) hM.2.1 (show ax_R G m 22 = some (m + 16) from (hM.2.2 15 _ rfl).1) (dk ddX11_rest 78 rfl) ?_
        refine x_iconst C (v := nI 0) (dk ddX11_rest 79 rfl) (by decide) ?_
        refine x_lald_n C (hM.lt (j := 16) (by decide)) (hM.2.2 15 _ rfl).2.1 (show ax_N G (m + 16) = 6 from (hM.2.2 15 _ rfl).2.2) (by decide) (by decide) (dk ddX11_rest 80 rfl) ?_
        refine x_goto C (tgt := 141) (dk ddX11_rest 81 rfl) (by decide) ?_
        refine x_iload_n C (dk ddX11_rest 88 rfl) rfl ?_
        refine x_iconst C (v := nI 1) (dk ddX11_rest 89 rfl) (by decide) ?_
        refine x_icmp_le_n C (tgt := 155) (dk ddX11_rest 90 rfl) (by decide) (by omega) (by decide) (fun h143 => ?_) (fun h143 => ?_)
        · refine x_aload_n C (dk ddX11_rest 96 rfl) rfl ?_
          refine x_getr C flX11_108 rfl (hM.lt (j := 0) (by decide)) hM.2.1 (show ax_R G m 45 = some (m + 33) from (hM.2.2 32 _ rfl).1) (dk ddX11_rest 97 rfl) ?_
          refine x_iconst C (v := nI 3) (dk ddX11_rest 98 rfl) (by decide) ?_
          refine x_iload_n C (dk ddX11_rest 99 rfl) rfl ?_
          refine x_imul_n C (dk ddX11_rest_p1 0 rfl) ?_
          refine x_iconst C (v := nI 1) (dk ddX11_rest_p1 1 rfl) (by decide) ?_
          refine x_iadd_n C (dk ddX11_rest_p1 2 rfl) ?_
          refine x_lald_n C (hM.lt (j := 33) (by decide)) (hM.2.2 32 _ rfl).2.1 (show ax_N G (m + 33) = 12 from (hM.2.2 32 _ rfl).2.2) (by omega) (by decide) (dk ddX11_rest_p1 3 rfl) ?_
          refine x_iload_n C (dk ddX11_rest_p1 4 rfl) rfl ?_
          refine x_iconst C (v := nI 2) (dk ddX11_rest_p1 5 rfl) (by decide) ?_
          refine x_icmp_le_n C (tgt := 179) (dk ddX11_rest_p1 6 rfl) (by decide) (by omega) (by decide) (fun h167 => ?_) (fun h167 => ?_)
          · refine x_aload_n C (dk ddX11_rest_p1 12 rfl) rfl ?_
            refine x_getr C flX11_108 rfl (hM.lt (j := 0) (by decide)) hM.2.1 (show ax_R G m 45 = some (m + 33) from (hM.2.2 32 _ rfl).1) (dk ddX11_rest_p1 13 rfl) ?_
            refine x_iconst C (v := nI 3) (dk ddX11_rest_p1 14 rfl) (by decide) ?_
            refine x_iload_n C (dk ddX11_rest_p1 15 rfl) rfl ?_
            refine x_imul_n C (dk ddX11_rest_p1 16 rfl) ?_
            refine x_iconst C (v := nI 2) (dk ddX11_rest_p1 17 rfl) (by decide) ?_
            refine x_iadd_n C (dk ddX11_rest_p1 18 rfl) ?_
            refine x_lald_n C (hM.lt (j := 33) (by decide)) (hM.2.2 32 _ rfl).2.1 (show ax_N G (m + 33) = 12 from (hM.2.2 32 _ rfl).2.2) (by omega) (by decide) (dk ddX11_rest_p1 19 rfl) ?_
            refine x_callV C (ci := 11) (As := [.int (nI k), .long ((ax_rs (m + 16) (m + 5) 0 (wd) (ax_st (m + 16) wd (N (m + 33) (3 * k)) (N (m + 33) (3 * k + 1)) (N (m + 33) (3 * k + 2)) N)) (m + 16) 0), .long ((ax_rs (m + 16) (m + 5) 0 (wd) (ax_st (m + 16) wd (N (m + 33) (3 * k)) (N (m + 33) (3 * k + 1)) (N (m + 33) (3 * k + 2)) N)) (m + 33) (3 * k + 1)), .long ((ax_rs (m + 16) (m + 5) 0 (wd) (ax_st (m + 16) wd (N (m + 33) (3 * k)) (N (m + 33) (3 * k + 1)) (N (m + 33) (3 * k + 2)) N)) (m + 33) (3 * k + 2))]) (k_X11_laysDown l D T o (d - 1) G (ax_u I m 6 (nI rc)) (ax_rs (m + 16) (m + 5) 0 (wd) (ax_st (m + 16) wd (N (m + 33) (3 * k)) (N (m + 33) (3 * k + 1)) (N (m + 33) (3 * k + 2)) N)) m k ((ax_rs (m + 16) (m + 5) 0 (wd) (ax_st (m + 16) wd (N (m + 33) (3 * k)) (N (m + 33) (3 * k + 1)) (N (m + 33) (3 * k + 2)) N)) (m + 16) 0) ((ax_rs (m + 16) (m + 5) 0 (wd) (ax_st (m + 16) wd (N (m + 33) (3 * k)) (N (m + 33) (3 * k + 1)) (N (m + 33) (3 * k + 2)) N)) (m + 33) (3 * k + 1)) ((ax_rs (m + 16) (m + 5) 0 (wd) (ax_st (m + 16) wd (N (m + 33) (3 * k)) (N (m + 33) (3 * k + 1)) (N (m + 33) (3 * k + 2)) N)) (m + 33) (3 * k + 2)) hM (by omega) (by omega)) mlX11_422 rfl rfl (hM.lt (j := 0) (by decide)) hM.2.1 ⟨by show d - 1 + 1 ≤ d; omega, by show 40 * (d - 1 + 1) ≤ 40 * d; omega⟩ ⟨Nat.le_refl _, Nat.le_refl _⟩ rfl (Nat.le_of_ble_eq_true rfl) (dk ddX11_rest_p1 20 rfl) ?_
            rintro v_ G_ I_ L_ ⟨rfl, rfl, rfl, rfl⟩
            exact x_iret C rfl ⟨by rw [if_pos (by omega : 0 < wd), if_neg (by omega : ¬ 1 < wd), if_neg (by omega : ¬ 2 < wd)], rfl, rfl, by rw [if_pos (by omega : 0 < wd), if_neg (by omega : ¬ 1 < wd), if_neg (by omega : ¬ 2 < wd)]⟩ rfl rfl (dk ddX11_rest_p1 21 rfl)
          · refine x_aload_n C (dk ddX11_rest_p1 7 rfl) rfl ?_
            refine x_getr C flX11_56 rfl (hM.lt (j := 0) (by decide)) hM.2.1 (show ax_R G m 22 = some (m + 16) from (hM.2.2 15 _ rfl).1) (dk ddX11_rest_p1 8 rfl) ?_
            refine x_iconst C (v := nI 2) (dk ddX11_rest_p1 9 rfl) (by decide) ?_
            refine x_lald_n C (hM.lt (j := 16) (by decide)) (hM.2.2 15 _ rfl).2.1 (show ax_N G (m + 16) = 6 from (hM.2.2 15 _ rfl).2.2) (by decide) (by decide) (dk ddX11_rest_p1 10 rfl) ?_
            refine x_goto C (tgt := 189) (dk ddX11_rest_p1 11 rfl) (by decide) ?_
            refine x_callV C (ci := 11) (As := [.int (nI k), .long ((ax_rs (m + 16) (m + 5) 0 (wd) (ax_st (m + 16) wd (N (m + 33) (3 * k)) (N (m + 33) (3 * k + 1)) (N (m + 33) (3 * k + 2)) N)) (m + 16) 0), .long ((ax_rs (m + 16) (m + 5) 0 (wd) (ax_st (m + 16) wd (N (m + 33) (3 * k)) (N (m + 33) (3 * k + 1)) (N (m + 33) (3 * k + 2)) N)) (m + 33) (3 * k + 1)), .long ((ax_rs (m + 16) (m + 5) 0 (wd) (ax_st (m + 16) wd (N (m + 33) (3 * k)) (N (m + 33) (3 * k + 1)) (N (m + 33) (3 * k + 2)) N)) (m + 16) 2)]) (k_X11_laysDown l D T o (d - 1) G (ax_u I m 6 (nI rc)) (ax_rs (m + 16) (m + 5) 0 (wd) (ax_st (m + 16) wd (N (m + 33) (3 * k)) (N (m + 33) (3 * k + 1)) (N (m + 33) (3 * k + 2)) N)) m k ((ax_rs (m + 16) (m + 5) 0 (wd) (ax_st (m + 16) wd (N (m + 33) (3 * k)) (N (m + 33) (3 * k + 1)) (N (m + 33) (3 * k + 2)) N)) (m + 16) 0) ((ax_rs (m + 16) (m + 5) 0 (wd) (ax_st (m + 16) wd (N (m + 33) (3 * k)) (N (m + 33) (3 * k + 1)) (N (m + 33) (3 * k + 2)) N)) (m + 33) (3 * k + 1)) ((ax_rs (m + 16) (m + 5) 0 (wd) (ax_st (m + 16) wd (N (m + 33) (3 * k)) (N (m + 33) (3 * k + 1)) (N (m + 33) (3 * k + 2)) N)) (m + 16) 2) hM (by omega) (by omega)) mlX11_422 rfl rfl (hM.lt (j := 0) (by decide)) hM.2.1 ⟨by show d - 1 + 1 ≤ d; omega, by show 40 * (d - 1 + 1) ≤ 40 * d; omega⟩ ⟨Nat.le_refl _, Nat.le_refl _⟩ rfl (Nat.le_of_ble_eq_true rfl) (dk ddX11_rest_p1 20 rfl) ?_
            rintro v_ G_ I_ L_ ⟨rfl, rfl, rfl, rfl⟩
            exact x_iret C rfl ⟨by rw [if_pos (by omega : 0 < wd), if_neg (by omega : ¬ 1 < wd), if_pos (by omega : 2 < wd)], rfl, rfl, by rw [if_pos (by omega : 0 < wd), if_neg (by omega : ¬ 1 < wd), if_pos (by omega : 2 < wd)]⟩ rfl rfl (dk ddX11_rest_p1 21 rfl)
        · refine x_aload_n C (dk ddX11_rest 91 rfl) rfl ?_
          refine x_getr C flX11_56 rfl (hM.lt (j := 0) (by decide)) hM.2.1 (show ax_R G m 22 = some (m + 16) from (hM.2.2 15 _ rfl).1) (dk ddX11_rest 92 rfl) ?_
          refine x_iconst C (v := nI 1) (dk ddX11_rest 93 rfl) (by decide) ?_
          refine x_lald_n C (hM.lt (j := 16) (by decide)) (hM.2.2 15 _ rfl).2.1 (show ax_N G (m + 16) = 6 from (hM.2.2 15 _ rfl).2.2) (by decide) (by decide) (dk ddX11_rest 94 rfl) ?_
          refine x_goto C (tgt := 165) (dk ddX11_rest 95 rfl) (by decide) ?_
          refine x_iload_n C (dk ddX11_rest_p1 4 rfl) rfl ?_
          refine x_iconst C (v := nI 2) (dk ddX11_rest_p1 5 rfl) (by decide) ?_
          refine x_icmp_le_n C (tgt := 179) (dk ddX11_rest_p1 6 rfl) (by decide) (by omega) (by decide) (fun h167 => ?_) (fun h167 => ?_)
          · refine x_aload_n C (dk ddX11_rest_p1 12 rfl) rfl ?_
            refine x_getr C flX11_108 rfl (hM.lt (j := 0) (by decide)) hM.2.1 (show ax_R G m 45 = some (m + 33) from (hM.2.2 32 _ rfl).1) (dk ddX11_rest_p1 13 rfl) ?_
            refine x_iconst C (v := nI 3) (dk ddX11_rest_p1 14 rfl) (by decide) ?_
            refine x_iload_n C (dk ddX11_rest_p1 15 rfl) rfl ?_
            refine x_imul_n C (dk ddX11_rest_p1 16 rfl) ?_
            refine x_iconst C (v := nI 2) (dk ddX11_rest_p1 17 rfl) (by decide) ?_
            refine x_iadd_n C (dk ddX11_rest_p1 18 rfl) ?_
            refine x_lald_n C (hM.lt (j := 33) (by decide)) (hM.2.2 32 _ rfl).2.1 (show ax_N G (m + 33) = 12 from (hM.2.2 32 _ rfl).2.2) (by omega) (by decide) (dk ddX11_rest_p1 19 rfl) ?_
            refine x_callV C (ci := 11) (As := [.int (nI k), .long ((ax_rs (m + 16) (m + 5) 0 (wd) (ax_st (m + 16) wd (N (m + 33) (3 * k)) (N (m + 33) (3 * k + 1)) (N (m + 33) (3 * k + 2)) N)) (m + 16) 0), .long ((ax_rs (m + 16) (m + 5) 0 (wd) (ax_st (m + 16) wd (N (m + 33) (3 * k)) (N (m + 33) (3 * k + 1)) (N (m + 33) (3 * k + 2)) N)) (m + 16) 1), .long ((ax_rs (m + 16) (m + 5) 0 (wd) (ax_st (m + 16) wd (N (m + 33) (3 * k)) (N (m + 33) (3 * k + 1)) (N (m + 33) (3 * k + 2)) N)) (m + 33) (3 * k + 2))]) (k_X11_laysDown l D T o (d - 1) G (ax_u I m 6 (nI rc)) (ax_rs (m + 16) (m + 5) 0 (wd) (ax_st (m + 16) wd (N (m + 33) (3 * k)) (N (m + 33) (3 * k + 1)) (N (m + 33) (3 * k + 2)) N)) m k ((ax_rs (m + 16) (m + 5) 0 (wd) (ax_st (m + 16) wd (N (m + 33) (3 * k)) (N (m + 33) (3 * k + 1)) (N (m + 33) (3 * k + 2)) N)) (m + 16) 0) ((ax_rs (m + 16) (m + 5) 0 (wd) (ax_st (m + 16) wd (N (m + 33) (3 * k)) (N (m + 33) (3 * k + 1)) (N (m + 33) (3 * k + 2)) N)) (m + 16) 1) ((ax_rs (m + 16) (m + 5) 0 (wd) (ax_st (m + 16) wd (N (m + 33) (3 * k)) (N (m + 33) (3 * k + 1)) (N (m + 33) (3 * k + 2)) N)) (m + 33) (3 * k + 2)) hM (by omega) (by omega)) mlX11_422 rfl rfl (hM.lt (j := 0) (by decide)) hM.2.1 ⟨by show d - 1 + 1 ≤ d; omega, by show 40 * (d - 1 + 1) ≤ 40 * d; omega⟩ ⟨Nat.le_refl _, Nat.le_refl _⟩ rfl (Nat.le_of_ble_eq_true rfl) (dk ddX11_rest_p1 20 rfl) ?_
            rintro v_ G_ I_ L_ ⟨rfl, rfl, rfl, rfl⟩
            exact x_iret C rfl ⟨by rw [if_pos (by omega : 0 < wd), if_pos (by omega : 1 < wd), if_neg (by omega : ¬ 2 < wd)], rfl, rfl, by rw [if_pos (by omega : 0 < wd), if_pos (by omega : 1 < wd), if_neg (by omega : ¬ 2 < wd)]⟩ rfl rfl (dk ddX11_rest_p1 21 rfl)
          · refine x_aload_n C (dk ddX11_rest_p1 7 rfl) rfl ?_
            refine x_getr C flX11_56 rfl (hM.lt (j := 0) (by decide)) hM.2.1 (show ax_R G m 22 = some (m + 16) from (hM.2.2 15 _ rfl).1) (dk ddX11_rest_p1 8 rfl) ?_
            refine x_iconst C (v := nI 2) (dk ddX11_rest_p1 9 rfl) (by decide) ?_
            refine x_lald_n C (hM.lt (j := 16) (by decide)) (hM.2.2 15 _ rfl).2.1 (show ax_N G (m + 16) = 6 from (hM.2.2 15 _ rfl).2.2) (by decide) (by decide) (dk ddX11_rest_p1 10 rfl) ?_
            refine x_goto C (tgt := 189) (dk ddX11_rest_p1 11 rfl) (by decide) ?_
            refine x_callV C (ci := 11) (As := [.int (nI k), .long ((ax_rs (m + 16) (m + 5) 0 (wd) (ax_st (m + 16) wd (N (m + 33) (3 * k)) (N (m + 33) (3 * k + 1)) (N (m + 33) (3 * k + 2)) N)) (m + 16) 0), .long ((ax_rs (m + 16) (m + 5) 0 (wd) (ax_st (m + 16) wd (N (m + 33) (3 * k)) (N (m + 33) (3 * k + 1)) (N (m + 33) (3 * k + 2)) N)) (m + 16) 1), .long ((ax_rs (m + 16) (m + 5) 0 (wd) (ax_st (m + 16) wd (N (m + 33) (3 * k)) (N (m + 33) (3 * k + 1)) (N (m + 33) (3 * k + 2)) N)) (m + 16) 2)]) (k_X11_laysDown l D T o (d - 1) G (ax_u I m 6 (nI rc)) (ax_rs (m + 16) (m + 5) 0 (wd) (ax_st (m + 16) wd (N (m + 33) (3 * k)) (N (m + 33) (3 * k + 1)) (N (m + 33) (3 * k + 2)) N)) m k ((ax_rs (m + 16) (m + 5) 0 (wd) (ax_st (m + 16) wd (N (m + 33) (3 * k)) (N (m + 33) (3 * k + 1)) (N (m + 33) (3 * k + 2)) N)) (m + 16) 0) ((ax_rs (m + 16) (m + 5) 0 (wd) (ax_st (m + 16) wd (N (m + 33) (3 * k)) (N (m + 33) (3 * k + 1)) (N (m + 33) (3 * k + 2)) N)) (m + 16) 1) ((ax_rs (m + 16) (m + 5) 0 (wd) (ax_st (m + 16) wd (N (m + 33) (3 * k)) (N (m + 33) (3 * k + 1)) (N (m + 33) (3 * k + 2)) N)) (m + 16) 2) hM (by omega) (by omega)) mlX11_422 rfl rfl (hM.lt (j := 0) (by decide)) hM.2.1 ⟨by show d - 1 + 1 ≤ d; omega, by show 40 * (d - 1 + 1) ≤ 40 * d; omega⟩ ⟨Nat.le_refl _, Nat.le_refl _⟩ rfl (Nat.le_of_ble_eq_true rfl) (dk ddX11_rest_p1 20 rfl) ?_
            rintro v_ G_ I_ L_ ⟨rfl, rfl, rfl, rfl⟩
            exact x_iret C rfl ⟨by rw [if_pos (by omega : 0 < wd), if_pos (by omega : 1 < wd), if_pos (by omega : 2 < wd)], rfl, rfl, by rw [if_pos (by omega : 0 < wd), if_pos (by omega : 1 < wd), if_pos (by omega : 2 < wd)]⟩ rfl rfl (dk ddX11_rest_p1 21 rfl)
    · exfalso
      omega
/-- where the next byte that is no blank stands, so many looked at from h on -/
def ax_nx (T : Nat → Int32) : Nat → Nat → Nat
  | 0, h => h
  | n + 1, h => if T h = nI 32 then ax_nx T n (h + 1) else h
theorem ax_nx_le (T : Nat → Int32) : ∀ n h, h ≤ ax_nx T n h ∧ ax_nx T n h ≤ h + n
  | 0, h => ⟨Nat.le_refl _, Nat.le_refl _⟩
  | n + 1, h => by
    have ih := ax_nx_le T n (h + 1)
    show _ ≤ (if _ then _ else _) ∧ (if _ then _ else _) ≤ _
    split <;> omega
/-- the memory while a text is told: here, codes, open, is it wrong, the code -/
def ax_TI (m h k op : Nat) (wr : Bool) (cd : Nat → Int32) (I : ax_I) : ax_I := fun q j => if q = m + 19 then cd j else if q = m then (if j = 30 then nI h else if j = 31 then nI k else if j = 32 then nI op else if j = 33 then ax_b wr else I q j) else I q j
section AXT
variable {m h k op v : Nat} {wr b : Bool} {cd : Nat → Int32} {I : ax_I}
theorem ax_TI_30 : ax_TI m h k op wr cd I m 30 = nI h := by unfold ax_TI; rw [if_neg (by omega), if_pos rfl, if_pos rfl]
theorem ax_TI_31 : ax_TI m h k op wr cd I m 31 = nI k := by unfold ax_TI; rw [if_neg (by omega), if_pos rfl, if_neg (by decide), if_pos rfl]
theorem ax_TI_32 : ax_TI m h k op wr cd I m 32 = nI op := by unfold ax_TI; rw [if_neg (by omega), if_pos rfl, if_neg (by decide), if_neg (by decide), if_pos rfl]
theorem ax_TI_33 : ax_TI m h k op wr cd I m 33 = ax_b wr := by unfold ax_TI; rw [if_neg (by omega), if_pos rfl, if_neg (by decide), if_neg (by decide), if_neg (by decide), if_pos rfl]
theorem ax_TI_m {j : Nat} (hj : j < 30) : ax_TI m h k op wr cd I m j = I m j := by unfold ax_TI; rw [if_neg (by omega), if_pos rfl, if_neg (by omega), if_neg (by omega), if_neg (by omega), if_neg (by omega)]
theorem ax_TI_c : ax_TI m h k op wr cd I (m + 19) = cd := by funext j; unfold ax_TI; rw [if_pos rfl]
theorem ax_TI_ne {q : Nat} (h1 : q ≠ m + 19) (h2 : q ≠ m) : ax_TI m h k op wr cd I q = I q := by funext j; unfold ax_TI; rw [if_neg h1, if_neg h2]
theorem ax_TI_u30 : ax_u (ax_TI m h k op wr cd I) m 30 (nI v) = ax_TI m v k op wr cd I := by
  funext q j
  unfold ax_u ax_TI
  by_cases hq : q = m
  · subst hq
    have h1 : ¬ q = q + 19 := by omega
    simp only [if_neg h1, if_true]
    by_cases hj : j = 30
    · subst hj; simp
    · simp [hj]
  · simp only [if_neg hq]
theorem ax_TI_u31 : ax_u (ax_TI m h k op wr cd I) m 31 (nI v) = ax_TI m h v op wr cd I := by
  funext q j
  unfold ax_u ax_TI
  by_cases hq : q = m
  · subst hq
    have h1 : ¬ q = q + 19 := by omega
    simp only [if_neg h1, if_true]
    by_cases hj : j = 31
    · subst hj; simp
    · simp [hj]
  · simp only [if_neg hq]
theorem ax_TI_u32 : ax_u (ax_TI m h k op wr cd I) m 32 (nI v) = ax_TI m h k v wr cd I := by
  funext q j
  unfold ax_u ax_TI
  by_cases hq : q = m
  · subst hq
    have h1 : ¬ q = q + 19 := by omega
    simp only [if_neg h1, if_true]
    by_cases hj : j = 32
    · subst hj; simp
    · simp [hj]
  · simp only [if_neg hq]
theorem ax_TI_u33 : ax_u (ax_TI m h k op wr cd I) m 33 (ax_b b) = ax_TI m h k op b cd I := by
  funext q j
  unfold ax_u ax_TI
  by_cases hq : q = m
  · subst hq
    have h1 : ¬ q = q + 19 := by omega
    simp only [if_neg h1, if_true]
    by_cases hj : j = 33
    · subst hj; simp
    · simp [hj]
  · simp only [if_neg hq]
/-- the code with one number more -/
def ax_cdu (cd : Nat → Int32) (k : Nat) (x : Int32) : Nat → Int32 := fun j => if j = k then x else cd j
theorem ax_TI_uc {x : Int32} : ax_u (ax_TI m h k op wr cd I) (m + 19) k x = ax_TI m h k op wr (ax_cdu cd k x) I := by
  funext q j
  unfold ax_u ax_TI ax_cdu
  by_cases hq : q = m + 19
  · simp only [if_pos hq]
  · simp only [if_neg hq]
end AXT
set_option maxRecDepth 20000 in
/-- next() -/
theorem k_X11_next (l : Launch) (D : va_G) (T : Nat → ClassId) (o d : Nat) (G : ax_G) (I : ax_I) (L : ax_L) (m c h k op : Nat) (wr : Bool) (cd : Nat → Int32) (hM : ax_Mod G m) (hc : I m 29 = nI c) (hc1 : c ≤ 100) (hh : h ≤ c) (hd : 0 ≤ d) : ax_Con l D T o yX11_next cX11_next 1 (some .int) d 0 0 [.ref m] G (ax_TI m h k op wr cd I) L (fun v G' I' L' => v = some (.int (if ax_nx (I (m + 18)) (c - h) h < c then I (m + 18) (ax_nx (I (m + 18)) (c - h) h) else -1)) ∧ G = G' ∧ ax_TI m (ax_nx (I (m + 18)) (c - h) h) k op wr cd I = I' ∧ L = L') := by
  refine ax_enter (by decide +kernel) (Nat.le_of_ble_eq_true rfl) ?_
  intro p_ e_ s_ m_ args_ below_ meth_ c_ C _
  refine x_lvs (lv' := [(0, .ref m)]) rfl ?_
  have hl : ∀ (n_ q : Nat), q + n_ = c → ax_nx (I (m + 18)) n_ q = ax_nx (I (m + 18)) (c - h) h → ax_XM p_ l e_ s_ m_ args_ below_ meth_ c_ 1 D T o d 0 0 G (fun v G' I' L' => v = some (.int (if ax_nx (I (m + 18)) (c - h) h < c then I (m + 18) (ax_nx (I (m + 18)) (c - h) h) else -1)) ∧ G = G' ∧ ax_TI m (ax_nx (I (m + 18)) (c - h) h) k op wr cd I = I' ∧ L = L') G (ax_TI m q k op wr cd I) L 0 [(0, .ref m)] [] := by
    intro n_
    induction n_ with
    | zero =>
      intro q hq he
      rw [show q = c by omega] at he ⊢
      have he2 : c = ax_nx (I (m + 18)) (c - h) h := he
      refine x_aload_n C (dk ddX11_next 0 rfl) rfl ?_
      refine x_geti C flX11_336 rfl (hM.lt (j := 0) (by decide)) hM.2.1 (dk ddX11_next 1 rfl) ?_
      rw [show ((ax_TI m c k op wr cd I) m 30) = nI c from ax_TI_30]
      refine x_aload_n C (dk ddX11_next 2 rfl) rfl ?_
      refine x_geti C flX11_333 rfl (hM.lt (j := 0) (by decide)) hM.2.1 (dk ddX11_next 3 rfl) ?_
      rw [show ((ax_TI m c k op wr cd I) m 29) = nI c from ((ax_TI_m (by decide)).trans hc)]
      refine x_icmp_ge_n C (tgt := 38) (dk ddX11_next 4 rfl) (by decide) (by omega) (by omega) (fun h8 => ?_) (fun h8 => ?_)
      · refine x_aload_n C (dk ddX11_next 19 rfl) rfl ?_
        refine x_geti C flX11_336 rfl (hM.lt (j := 0) (by decide)) hM.2.1 (dk ddX11_next 20 rfl) ?_
        rw [show ((ax_TI m c k op wr cd I) m 30) = nI c from ax_TI_30]
        refine x_aload_n C (dk ddX11_next 21 rfl) rfl ?_
        refine x_geti C flX11_333 rfl (hM.lt (j := 0) (by decide)) hM.2.1 (dk ddX11_next 22 rfl) ?_
        rw [show ((ax_TI m c k op wr cd I) m 29) = nI c from ((ax_TI_m (by decide)).trans hc)]
        refine x_icmp_ge_n C (tgt := 61) (dk ddX11_next 23 rfl) (by decide) (by omega) (by omega) (fun h46 => ?_) (fun h46 => ?_)
        · refine x_iconst C (v := (-1)) (dk ddX11_next 30 rfl) (by decide) ?_
          exact x_iret C rfl ⟨by rw [if_neg (by omega)], rfl, by rw [← he2], rfl⟩ rfl rfl (dk ddX11_next 31 rfl)
        · exfalso
          omega
      · exfalso
        omega
    | succ n_ ih_ =>
      intro q hq he
      refine x_aload_n C (dk ddX11_next 0 rfl) rfl ?_
      refine x_geti C flX11_336 rfl (hM.lt (j := 0) (by decide)) hM.2.1 (dk ddX11_next 1 rfl) ?_
      rw [show ((ax_TI m q k op wr cd I) m 30) = nI q from ax_TI_30]
      refine x_aload_n C (dk ddX11_next 2 rfl) rfl ?_
      refine x_geti C flX11_333 rfl (hM.lt (j := 0) (by decide)) hM.2.1 (dk ddX11_next 3 rfl) ?_
      rw [show ((ax_TI m q k op wr cd I) m 29) = nI c from ((ax_TI_m (by decide)).trans hc)]
      refine x_icmp_ge_n C (tgt := 38) (dk ddX11_next 4 rfl) (by decide) (by omega) (by omega) (fun h8 => ?_) (fun h8 => ?_)
      · exfalso
        omega
      · refine x_aload_n C (dk ddX11_next 5 rfl) rfl ?_
        refine x_getr C flX11_62 rfl (hM.lt (j := 0) (by decide)) hM.2.1 (show ax_R G m 24 = some (m + 18) from (hM.2.2 17 _ rfl).1) (dk ddX11_next 6 rfl) ?_
        refine x_aload_n C (dk ddX11_next 7 rfl) rfl ?_
        refine x_geti C flX11_336 rfl (hM.lt (j := 0) (by decide)) hM.2.1 (dk ddX11_next 8 rfl) ?_
        rw [show ((ax_TI m q k op wr cd I) m 30) = nI q from ax_TI_30]
        refine x_bald_n C (hM.lt (j := 18) (by decide)) (hM.2.2 17 _ rfl).2.1 (show ax_N G (m + 18) = 100 from (hM.2.2 17 _ rfl).2.2) (by omega) (by decide) (dk ddX11_next 9 rfl) ?_
        rw [show ((ax_TI m q k op wr cd I) (m + 18) q) = I (m + 18) q from (congrFun (ax_TI_ne (by omega) (by omega)) _)]
        refine x_bipush C (v := nI 32) (dk ddX11_next 10 rfl) (by decide) ?_
        refine x_icmp_ne C (tgt := 38) (dk ddX11_next 11 rfl) (by decide) (fun h22 => ?_) (fun h22 => ?_)
        · have he2 : q = ax_nx (I (m + 18)) (c - h) h := (Eq.symm (show ax_nx (I (m + 18)) (n_ + 1) q = _ from if_neg h22)).trans he
          refine x_aload_n C (dk ddX11_next 19 rfl) rfl ?_
          refine x_geti C flX11_336 rfl (hM.lt (j := 0) (by decide)) hM.2.1 (dk ddX11_next 20 rfl) ?_
          rw [show ((ax_TI m q k op wr cd I) m 30) = nI q from ax_TI_30]
          refine x_aload_n C (dk ddX11_next 21 rfl) rfl ?_
          refine x_geti C flX11_333 rfl (hM.lt (j := 0) (by decide)) hM.2.1 (dk ddX11_next 22 rfl) ?_
          rw [show ((ax_TI m q k op wr cd I) m 29) = nI c from ((ax_TI_m (by decide)).trans hc)]
          refine x_icmp_ge_n C (tgt := 61) (dk ddX11_next 23 rfl) (by decide) (by omega) (by omega) (fun h46 => ?_) (fun h46 => ?_)
          · exfalso
            omega
          · refine x_aload_n C (dk ddX11_next 24 rfl) rfl ?_
            refine x_getr C flX11_62 rfl (hM.lt (j := 0) (by decide)) hM.2.1 (show ax_R G m 24 = some (m + 18) from (hM.2.2 17 _ rfl).1) (dk ddX11_next 25 rfl) ?_
            refine x_aload_n C (dk ddX11_next 26 rfl) rfl ?_
            refine x_geti C flX11_336 rfl (hM.lt (j := 0) (by decide)) hM.2.1 (dk ddX11_next 27 rfl) ?_
            rw [show ((ax_TI m q k op wr cd I) m 30) = nI q from ax_TI_30]
            refine x_bald_n C (hM.lt (j := 18) (by decide)) (hM.2.2 17 _ rfl).2.1 (show ax_N G (m + 18) = 100 from (hM.2.2 17 _ rfl).2.2) (by omega) (by decide) (dk ddX11_next 28 rfl) ?_
            rw [show ((ax_TI m q k op wr cd I) (m + 18) q) = I (m + 18) q from (congrFun (ax_TI_ne (by omega) (by omega)) _)]
            refine x_goto C (tgt := 62) (dk ddX11_next 29 rfl) (by decide) ?_
            exact x_iret C rfl ⟨by rw [← he2, if_pos (by omega)], rfl, by rw [← he2], rfl⟩ rfl rfl (dk ddX11_next 31 rfl)
        · refine x_aload_n C (dk ddX11_next 12 rfl) rfl ?_
          refine x_dup C (dk ddX11_next 13 rfl) rfl ?_
          refine x_geti C flX11_336 rfl (hM.lt (j := 0) (by decide)) hM.2.1 (dk ddX11_next 14 rfl) ?_
          rw [show ((ax_TI m q k op wr cd I) m 30) = nI q from ax_TI_30]
          refine x_iconst C (v := nI 1) (dk ddX11_next 15 rfl) (by decide) ?_
          refine x_iadd_n C (dk ddX11_next 16 rfl) ?_
          refine x_puti C flX11_336 fw11 rfl rfl (hM.lt (j := 0) (by decide)) hM.2.1 rfl rfl (dk ddX11_next 17 rfl) ?_
          refine x_goto C (tgt := 0) (dk ddX11_next 18 rfl) (by decide) ?_
          rw [ax_TI_u30]
          exact ih_ (q + 1) (by omega) ((Eq.symm (show ax_nx (I (m + 18)) (n_ + 1) q = _ from if_pos h22)).trans he)
  exact hl (c - h) h (by omega) rfl
/-- takes: is it there, and where the reading stands then -/
def ax_tk (T : Nat → Int32) (c h : Nat) (wr : Bool) (sg : Int32) : Bool := !wr && decide ((if ax_nx T (c - h) h < c then T (ax_nx T (c - h) h) else -1) = sg)
def ax_tkh (T : Nat → Int32) (c h : Nat) (wr : Bool) (sg : Int32) : Nat := bif wr then h else ax_nx T (c - h) h + (bif ax_tk T c h wr sg then 1 else 0)
set_option maxRecDepth 20000 in
/-- takes(sign) -/
theorem k_X11_takes (l : Launch) (D : va_G) (T : Nat → ClassId) (o d : Nat) (G : ax_G) (I : ax_I) (L : ax_L) (m c h k op : Nat) (wr : Bool) (cd : Nat → Int32) (sg : Int32) (hM : ax_Mod G m) (hc : I m 29 = nI c) (hc1 : c ≤ 100) (hh : h ≤ c) (hd : 1 ≤ d) : ax_Con l D T o yX11_takes cX11_takes 3 (some .boolean) d 0 0 [.ref m, .int sg] G (ax_TI m h k op wr cd I) L (fun v G' I' L' => v = some (.int (ax_b (ax_tk (I (m + 18)) c h wr sg))) ∧ G = G' ∧ ax_TI m (ax_tkh (I (m + 18)) c h wr sg) k op wr cd I = I' ∧ L = L') := by
  refine ax_enter (by decide +kernel) (Nat.le_of_ble_eq_true rfl) ?_
  intro p_ e_ s_ m_ args_ below_ meth_ c_ C _
  refine x_lvs (lv' := [(0, .ref m), (1, .int sg)]) rfl ?_
  refine x_aload_n C (dk ddX11_takes 0 rfl) rfl ?_
  refine x_geti C flX11_339 rfl (hM.lt (j := 0) (by decide)) hM.2.1 (dk ddX11_takes 1 rfl) ?_
  rw [show ((ax_TI m h k op wr cd I) m 33) = ax_b wr from ax_TI_33]
  refine x_if_ne_b C (tgt := 19) (dk ddX11_takes 2 rfl) (by decide) (fun h4 => ?_) (fun h4 => ?_)
  · refine x_iconst C (v := nI 0) (dk ddX11_takes 9 rfl) (by decide) ?_
    refine x_istore_n C (lv' := [(2, .int (nI 0)), (0, .ref m), (1, .int sg)]) (dk ddX11_takes 10 rfl) (by decide) rfl ?_
    refine x_aload_n C (dk ddX11_takes 11 rfl) rfl ?_
    refine x_dup C (dk ddX11_takes 12 rfl) rfl ?_
    refine x_geti C flX11_336 rfl (hM.lt (j := 0) (by decide)) hM.2.1 (dk ddX11_takes 13 rfl) ?_
    rw [show ((ax_TI m h k op wr cd I) m 30) = nI h from ax_TI_30]
    refine x_iload_n C (dk ddX11_takes 14 rfl) rfl ?_
    refine x_if_eq_n C (tgt := 34) (dk ddX11_takes 15 rfl) (by decide) (by decide) (fun _ => ?_) (fun h_ => absurd h_ (by decide))
    refine x_iconst C (v := nI 0) (dk ddX11_takes 18 rfl) (by decide) ?_
    refine x_iadd_n C (dk ddX11_takes 19 rfl) ?_
    refine x_puti C flX11_336 fw11 rfl rfl (hM.lt (j := 0) (by decide)) hM.2.1 rfl rfl (dk ddX11_takes 20 rfl) ?_
    refine x_iload_n C (dk ddX11_takes 21 rfl) rfl ?_
    have et : ax_tk (I (m + 18)) c h wr sg = false := by unfold ax_tk; rw [h4]; rfl
    have eh : ax_tkh (I (m + 18)) c h wr sg = h + 0 := by unfold ax_tkh; rw [et, h4]; rfl
    exact x_zret C rfl rfl ⟨by rw [et]; rfl, rfl, by rw [eh, ← ax_TI_u30], rfl⟩ rfl rfl (dk ddX11_takes 22 rfl)
  · refine x_aload_n C (dk ddX11_takes 3 rfl) rfl ?_
    refine x_callV C (ci := 11) (As := []) (k_X11_next l D T o (d - 1) G I L m c h k op wr cd hM hc hc1 (by omega) (by omega)) mlX11_343 rfl rfl (hM.lt (j := 0) (by decide)) hM.2.1 ⟨by show d - 1 + 1 ≤ d; omega, by show 40 * (d - 1 + 1) ≤ 40 * d; omega⟩ ⟨Nat.le_refl _, Nat.le_refl _⟩ rfl (Nat.le_of_ble_eq_true rfl) (dk ddX11_takes 4 rfl) ?_
    rintro v_ G_ I_ L_ ⟨rfl, rfl, rfl, rfl⟩
    have hle := ax_nx_le (I (m + 18)) (c - h) h
    refine x_iload_n C (dk ddX11_takes 5 rfl) rfl ?_
    refine x_icmp_ne C (tgt := 19) (dk ddX11_takes 6 rfl) (by decide) (fun h12 => ?_) (fun h12 => ?_)
    · refine x_iconst C (v := nI 0) (dk ddX11_takes 9 rfl) (by decide) ?_
      refine x_istore_n C (lv' := [(2, .int (nI 0)), (0, .ref m), (1, .int sg)]) (dk ddX11_takes 10 rfl) (by decide) rfl ?_
      refine x_aload_n C (dk ddX11_takes 11 rfl) rfl ?_
      refine x_dup C (dk ddX11_takes 12 rfl) rfl ?_
      refine x_geti C flX11_336 rfl (hM.lt (j := 0) (by decide)) hM.2.1 (dk ddX11_takes 13 rfl) ?_
      rw [show ((ax_TI m (ax_nx (I (m + 18)) (c - h) h) k op wr cd I) m 30) = nI (ax_nx (I (m + 18)) (c - h) h) from ax_TI_30]
      refine x_iload_n C (dk ddX11_takes 14 rfl) rfl ?_
      refine x_if_eq_n C (tgt := 34) (dk ddX11_takes 15 rfl) (by decide) (by decide) (fun _ => ?_) (fun h_ => absurd h_ (by decide))
      refine x_iconst C (v := nI 0) (dk ddX11_takes 18 rfl) (by decide) ?_
      refine x_iadd_n C (dk ddX11_takes 19 rfl) ?_
      refine x_puti C flX11_336 fw11 rfl rfl (hM.lt (j := 0) (by decide)) hM.2.1 rfl rfl (dk ddX11_takes 20 rfl) ?_
      refine x_iload_n C (dk ddX11_takes 21 rfl) rfl ?_
      have et : ax_tk (I (m + 18)) c h wr sg = false := by unfold ax_tk; rw [h4, decide_eq_false h12]; rfl
      have eh : ax_tkh (I (m + 18)) c h wr sg = ax_nx (I (m + 18)) (c - h) h + 0 := by unfold ax_tkh; rw [et, h4]; rfl
      exact x_zret C rfl rfl ⟨by rw [et]; rfl, rfl, by rw [eh, ← ax_TI_u30], rfl⟩ rfl rfl (dk ddX11_takes 22 rfl)
    · refine x_iconst C (v := nI 1) (dk ddX11_takes 7 rfl) (by decide) ?_
      refine x_goto C (tgt := 20) (dk ddX11_takes 8 rfl) (by decide) ?_
      refine x_istore_n C (lv' := [(2, .int (nI 1)), (0, .ref m), (1, .int sg)]) (dk ddX11_takes 10 rfl) (by decide) rfl ?_
      refine x_aload_n C (dk ddX11_takes 11 rfl) rfl ?_
      refine x_dup C (dk ddX11_takes 12 rfl) rfl ?_
      refine x_geti C flX11_336 rfl (hM.lt (j := 0) (by decide)) hM.2.1 (dk ddX11_takes 13 rfl) ?_
      rw [show ((ax_TI m (ax_nx (I (m + 18)) (c - h) h) k op wr cd I) m 30) = nI (ax_nx (I (m + 18)) (c - h) h) from ax_TI_30]
      refine x_iload_n C (dk ddX11_takes 14 rfl) rfl ?_
      refine x_if_eq_n C (tgt := 34) (dk ddX11_takes 15 rfl) (by decide) (by decide) (fun h_ => absurd h_ (by decide)) (fun _ => ?_)
      refine x_iconst C (v := nI 1) (dk ddX11_takes 16 rfl) (by decide) ?_
      refine x_goto C (tgt := 35) (dk ddX11_takes 17 rfl) (by decide) ?_
      refine x_iadd_n C (dk ddX11_takes 19 rfl) ?_
      refine x_puti C flX11_336 fw11 rfl rfl (hM.lt (j := 0) (by decide)) hM.2.1 rfl rfl (dk ddX11_takes 20 rfl) ?_
      refine x_iload_n C (dk ddX11_takes 21 rfl) rfl ?_
      have et : ax_tk (I (m + 18)) c h wr sg = true := by unfold ax_tk; rw [h4, decide_eq_true h12]; rfl
      have eh : ax_tkh (I (m + 18)) c h wr sg = ax_nx (I (m + 18)) (c - h) h + 1 := by unfold ax_tkh; rw [et, h4]; rfl
      exact x_zret C rfl rfl ⟨by rw [et]; rfl, rfl, by rw [eh, ← ax_TI_u30], rfl⟩ rfl rfl (dk ddX11_takes 22 rfl)
set_option maxRecDepth 20000 in
/-- lays(v) -/
theorem k_X11_lays (l : Launch) (D : va_G) (T : Nat → ClassId) (o d : Nat) (G : ax_G) (I : ax_I) (L : ax_L) (m c h k op : Nat) (wr : Bool) (cd : Nat → Int32) (x : Int32) (hM : ax_Mod G m) (hc : I m 29 = nI c) (hc1 : c ≤ 100) (hh : h ≤ c) (hk : k < 200) (hd : 0 ≤ d) : ax_Con l D T o yX11_lays cX11_lays 2 none d 0 0 [.ref m, .int x] G (ax_TI m h k op wr cd I) L (fun v G' I' L' => v = none ∧ G = G' ∧ (bif wr then ax_TI m h k op wr cd I else ax_TI m h (k + 1) op wr (ax_cdu cd k x) I) = I' ∧ L = L') := by
  refine ax_enter (by decide +kernel) (Nat.le_of_ble_eq_true rfl) ?_
  intro p_ e_ s_ m_ args_ below_ meth_ c_ C _
  refine x_lvs (lv' := [(0, .ref m), (1, .int x)]) rfl ?_
  refine x_aload_n C (dk ddX11_lays 0 rfl) rfl ?_
  refine x_geti C flX11_339 rfl (hM.lt (j := 0) (by decide)) hM.2.1 (dk ddX11_lays 1 rfl) ?_
  rw [show ((ax_TI m h k op wr cd I) m 33) = ax_b wr from ax_TI_33]
  refine x_if_ne_b C (tgt := 27) (dk ddX11_lays 2 rfl) (by decide) (fun h4 => ?_) (fun h4 => ?_)
  · exact x_vret C rfl ⟨rfl, rfl, by rw [h4]; rfl, rfl⟩ rfl rfl (dk ddX11_lays 15 rfl)
  · refine x_aload_n C (dk ddX11_lays 3 rfl) rfl ?_
    refine x_getr C flX11_66 rfl (hM.lt (j := 0) (by decide)) hM.2.1 (show ax_R G m 25 = some (m + 19) from (hM.2.2 18 _ rfl).1) (dk ddX11_lays 4 rfl) ?_
    refine x_aload_n C (dk ddX11_lays 5 rfl) rfl ?_
    refine x_geti C flX11_346 rfl (hM.lt (j := 0) (by decide)) hM.2.1 (dk ddX11_lays 6 rfl) ?_
    rw [show ((ax_TI m h k op wr cd I) m 31) = nI k from (by first | exact ax_TI_31 | (rw [ax_u_ne (by omega)]; exact ax_TI_31))]
    refine x_iload_n C (dk ddX11_lays 7 rfl) rfl ?_
    refine x_iast_n C (hM.lt (j := 19) (by decide)) (hM.2.2 18 _ rfl).2.1 (show ax_N G (m + 19) = 200 from (hM.2.2 18 _ rfl).2.2) (by omega) (by decide) (dk ddX11_lays 8 rfl) ?_
    refine x_aload_n C (dk ddX11_lays 9 rfl) rfl ?_
    refine x_dup C (dk ddX11_lays 10 rfl) rfl ?_
    refine x_geti C flX11_346 rfl (hM.lt (j := 0) (by decide)) hM.2.1 (dk ddX11_lays 11 rfl) ?_
    rw [show ((ax_u (ax_TI m h k op wr cd I) (m + 19) k x) m 31) = nI k from (by first | exact ax_TI_31 | (rw [ax_u_ne (by omega)]; exact ax_TI_31))]
    refine x_iconst C (v := nI 1) (dk ddX11_lays 12 rfl) (by decide) ?_
    refine x_iadd_n C (dk ddX11_lays 13 rfl) ?_
    refine x_puti C flX11_346 fw11 rfl rfl (hM.lt (j := 0) (by decide)) hM.2.1 rfl rfl (dk ddX11_lays 14 rfl) ?_
    exact x_vret C rfl ⟨rfl, rfl, by rw [h4, ax_TI_uc, ax_TI_u31]; rfl, rfl⟩ rfl rfl (dk ddX11_lays 15 rfl)
