/-! ===== the class: span; maps ===== -/
set_option maxRecDepth 20000 in
/-- span, refused -/
theorem k_X10_span_bad (l : Launch) (D : va_G) (T : Nat → ClassId) (o d : Nat) (G : ax_G) (I : ax_I) (L : ax_L) (a : Nat) (g j i n : Int32) (hC : ax_Cls G a) (hbad : ax_rng g 6 = false ∨ ax_rng j 4 = false ∨ n < 0 ∨ nI 9 < n) (hd : 3 ≤ d) : ax_Con l D T o yX10_span cX10_span 9 (some .int) d 0 0 [.ref a, .int g, .int j, .int i, .int n] G I L (fun zz G' I' L' => zz = some (.int ((-1))) ∧ G = G' ∧ I = I' ∧ L = L') := by
  refine ax_enter (by decide +kernel) (Nat.le_of_ble_eq_true rfl) ?_
  intro p_ e_ s_ m_ args_ below_ meth_ c_ C _
  refine x_lvs (lv' := [(0, .ref a), (1, .int g), (2, .int j), (3, .int i), (4, .int n)]) rfl ?_
  refine x_iload_n C (dk ddX10_span 0 rfl) rfl ?_
  refine x_callS C (As := [.int g]) (k_X10_isGroup l D T o (d - 1) G I L g) mlX10_98 ⟨by show d - 1 + 1 ≤ d; omega, by show 40 * (d - 1 + 1) ≤ 40 * d; omega⟩ ⟨Nat.le_refl _, Nat.le_refl _⟩ rfl (Nat.le_of_ble_eq_true rfl) (dk ddX10_span 1 rfl) ?_
  rintro v_ G_ I_ L_ ⟨rfl, rfl, rfl, rfl⟩
  refine x_if_eq_b C (tgt := 26) (dk ddX10_span 2 rfl) (by decide) (fun h4 => ?_) (fun h4 => ?_)
  · refine x_iconst C (v := (-1)) (dk ddX10_span 11 rfl) (by decide) ?_
    exact x_iret C rfl ⟨rfl, rfl, rfl, rfl⟩ rfl rfl (dk ddX10_span 12 rfl)
  · refine x_iload_n C (dk ddX10_span 3 rfl) rfl ?_
    refine x_callS C (As := [.int j]) (k_X10_isSheet l D T o (d - 1) G I L j) mlX10_183 ⟨by show d - 1 + 1 ≤ d; omega, by show 40 * (d - 1 + 1) ≤ 40 * d; omega⟩ ⟨Nat.le_refl _, Nat.le_refl _⟩ rfl (Nat.le_of_ble_eq_true rfl) (dk ddX10_span 4 rfl) ?_
    rintro v_ G_ I_ L_ ⟨rfl, rfl, rfl, rfl⟩
    refine x_if_eq_b C (tgt := 26) (dk ddX10_span 5 rfl) (by decide) (fun h11 => ?_) (fun h11 => ?_)
    · refine x_iconst C (v := (-1)) (dk ddX10_span 11 rfl) (by decide) ?_
      exact x_iret C rfl ⟨rfl, rfl, rfl, rfl⟩ rfl rfl (dk ddX10_span 12 rfl)
    · refine x_iload C (dk ddX10_span 6 rfl) rfl ?_
      refine x_if_lt C (tgt := 26) (dk ddX10_span 7 rfl) (by decide) (fun h16 => ?_) (fun h16 => ?_)
      · have h16c := Int32.not_le.mpr h16
        refine x_iconst C (v := (-1)) (dk ddX10_span 11 rfl) (by decide) ?_
        exact x_iret C rfl ⟨rfl, rfl, rfl, rfl⟩ rfl rfl (dk ddX10_span 12 rfl)
      · have h16c := Int32.not_lt.mp h16
        refine x_iload C (dk ddX10_span 8 rfl) rfl ?_
        refine x_bipush C (v := nI 9) (dk ddX10_span 9 rfl) (by decide) ?_
        refine x_icmp_le C (tgt := 28) (dk ddX10_span 10 rfl) (by decide) (fun h23 => ?_) (fun h23 => ?_)
        · have h23c := Int32.not_lt.mpr h23
          exfalso
          rcases hbad with hq_ | hq_ | hq_ | hq_ <;> first | exact absurd hq_ (by assumption) | (simp_all; done)
        · have h23c := Int32.not_le.mp h23
          refine x_iconst C (v := (-1)) (dk ddX10_span 11 rfl) (by decide) ?_
          exact x_iret C rfl ⟨rfl, rfl, rfl, rfl⟩ rfl rfl (dk ddX10_span 12 rfl)
set_option maxRecDepth 20000 in
/-- span, no such items -/
theorem k_X10_span_no (l : Launch) (D : va_G) (T : Nat → ClassId) (o d : Nat) (G : ax_G) (I : ax_I) (L : ax_L) (a g j n : Nat) (i : Int32) (hC : ax_Cls G a) (hg : g < 6) (hj : j < 4) (hn : n ≤ 9) (hr : ax_rf (I (a + (623 + 2 * j)) 0) (I (a + (623 + 2 * j)) 1) (nI 1) i (nI (3 * n)) < 0) (hd : 5 ≤ d) : ax_Con l D T o yX10_span cX10_span 9 (some .int) d 0 0 [.ref a, .int (nI g), .int (nI j), .int i, .int (nI n)] G I L (fun zz G' I' L' => zz = some (.int (ax_rf (I (a + (623 + 2 * j)) 0) (I (a + (623 + 2 * j)) 1) (nI 1) i (nI (3 * n)))) ∧ G = G' ∧ I = I' ∧ L = L') := by
  refine ax_enter (by decide +kernel) (Nat.le_of_ble_eq_true rfl) ?_
  intro p_ e_ s_ m_ args_ below_ meth_ c_ C _
  refine x_lvs (lv' := [(0, .ref a), (1, .int (nI g)), (2, .int (nI j)), (3, .int i), (4, .int (nI n))]) rfl ?_
  refine x_iload_n C (dk ddX10_span 0 rfl) rfl ?_
  refine x_callS C (As := [.int (nI g)]) (k_X10_isGroup l D T o (d - 1) G I L (nI g)) mlX10_98 ⟨by show d - 1 + 1 ≤ d; omega, by show 40 * (d - 1 + 1) ≤ 40 * d; omega⟩ ⟨Nat.le_refl _, Nat.le_refl _⟩ rfl (Nat.le_of_ble_eq_true rfl) (dk ddX10_span 1 rfl) ?_
  rintro v_ G_ I_ L_ ⟨rfl, rfl, rfl, rfl⟩
  rw [show (ax_rng (nI g) 6) = true from ax_rng_ok (h := 6) (by omega) (by decide)]
  refine x_if_eq_b C (tgt := 26) (dk ddX10_span 2 rfl) (by decide) (fun h_ => absurd h_ (by decide)) (fun _ => ?_)
  refine x_iload_n C (dk ddX10_span 3 rfl) rfl ?_
  refine x_callS C (As := [.int (nI j)]) (k_X10_isSheet l D T o (d - 1) G I L (nI j)) mlX10_183 ⟨by show d - 1 + 1 ≤ d; omega, by show 40 * (d - 1 + 1) ≤ 40 * d; omega⟩ ⟨Nat.le_refl _, Nat.le_refl _⟩ rfl (Nat.le_of_ble_eq_true rfl) (dk ddX10_span 4 rfl) ?_
  rintro v_ G_ I_ L_ ⟨rfl, rfl, rfl, rfl⟩
  rw [show (ax_rng (nI j) 4) = true from ax_rng_ok (h := 4) (by omega) (by decide)]
  refine x_if_eq_b C (tgt := 26) (dk ddX10_span 5 rfl) (by decide) (fun h_ => absurd h_ (by decide)) (fun _ => ?_)
  refine x_iload C (dk ddX10_span 6 rfl) rfl ?_
  refine x_if_lt_n C (tgt := 26) (dk ddX10_span 7 rfl) (by decide) (by omega) (fun h16 => ?_) (fun h16 => ?_)
  · exfalso
    omega
  · refine x_iload C (dk ddX10_span 8 rfl) rfl ?_
    refine x_bipush C (v := nI 9) (dk ddX10_span 9 rfl) (by decide) ?_
    refine x_icmp_le_n C (tgt := 28) (dk ddX10_span 10 rfl) (by decide) (by omega) (by decide) (fun h23 => ?_) (fun h23 => ?_)
    · refine x_aload_n C (dk ddX10_span 13 rfl) rfl ?_
      refine x_getr C flX10_46 rfl (by have h_ := hC.1; omega) hC.fld.1 (show ax_R G a 6 = some (a + 481) from hC.fld.2.2 (6, 481) (by decide)) (dk ddX10_span 14 rfl) ?_
      refine x_iload_n C (dk ddX10_span 15 rfl) rfl ?_
      refine x_aald5_n C hC.sheets.1 hC.sheets.2.1 hC.sheets.2.2 (by omega) (by decide) (hC.sheet (k := j) (by omega)).1 (dk ddX10_span 16 rfl) ?_
      refine x_astore C (lv' := [(5, .ref (a + (623 + 2 * j))), (0, .ref a), (1, .int (nI g)), (2, .int (nI j)), (3, .int i), (4, .int (nI n))]) (dk ddX10_span 17 rfl) (by decide) rfl ?_
      refine x_aload C (dk ddX10_span 18 rfl) rfl ?_
      refine x_iconst C (v := nI 1) (dk ddX10_span 19 rfl) (by decide) ?_
      refine x_iload_n C (dk ddX10_span 20 rfl) rfl ?_
      refine x_iconst C (v := nI 3) (dk ddX10_span 21 rfl) (by decide) ?_
      refine x_iload C (dk ddX10_span 22 rfl) rfl ?_
      refine x_imul_n C (dk ddX10_span 23 rfl) ?_
      refine x_callV C (ci := 5) (As := [.int (nI 1), .int i, .int (nI (3 * n))]) (k_X5_refusal l D T o (d - 1) G I L (a + (623 + 2 * j)) (a + (624 + 2 * j)) (nI 1) i (nI (3 * n)) (hC.sheet (k := j) (by omega)).2) mlX10_186 rfl rfl (hC.sheet (k := j) (by omega)).2.1 (hC.sheet (k := j) (by omega)).2.2.1 ⟨by show d - 1 + 1 ≤ d; omega, by show 40 * (d - 1 + 1) ≤ 40 * d; omega⟩ ⟨Nat.le_refl _, Nat.le_refl _⟩ rfl (Nat.le_of_ble_eq_true rfl) (dk ddX10_span 24 rfl) ?_
      rintro v_ G_ I_ L_ ⟨rfl, rfl, rfl, rfl⟩
      refine x_istore C (lv' := [(6, .int (ax_rf (I (a + (623 + 2 * j)) 0) (I (a + (623 + 2 * j)) 1) (nI 1) i (nI (3 * n)))), (5, .ref (a + (623 + 2 * j))), (0, .ref a), (1, .int (nI g)), (2, .int (nI j)), (3, .int i), (4, .int (nI n))]) (dk ddX10_span 25 rfl) (by decide) rfl ?_
      refine x_iload C (dk ddX10_span 26 rfl) rfl ?_
      refine x_if_ge C (tgt := 57) (dk ddX10_span 27 rfl) (by decide) (fun h51 => ?_) (fun h51 => ?_)
      · have h51c := Int32.not_lt.mpr h51
        exfalso
        exact absurd hr (Int32.not_lt.mpr h51)
      · have h51c := Int32.not_le.mp h51
        refine x_iload C (dk ddX10_span 28 rfl) rfl ?_
        exact x_iret C rfl ⟨rfl, rfl, rfl, rfl⟩ rfl rfl (dk ddX10_span 29 rfl)
    · exfalso
      omega
set_option maxRecDepth 20000 in
/-- areWithin of no numbers -/
theorem k_X5_areWithin_0 (l : Launch) (D : va_G) (T : Nat → ClassId) (o d : Nat) (G : ax_G) (I : ax_I) (L : ax_L) (r x : Nat) (f : Int32) (v : Int64) (hr : ax_Sh G r x) : ax_Con l D T o yX5_areWithin cX5_areWithin 6 (some .boolean) d 0 0 [.ref r, .int f, .int (nI 0), .long v] G I L (fun zz G' I' L' => zz = some (.int (ax_b (true))) ∧ G = G' ∧ I = I' ∧ L = L') := by
  refine ax_enter (by decide +kernel) (Nat.le_of_ble_eq_true rfl) ?_
  intro p_ e_ s_ m_ args_ below_ meth_ c_ C _
  refine x_lvs (lv' := [(0, .ref r), (1, .int f), (2, .int (nI 0)), (3, .long v)]) rfl ?_
  refine x_iload_n C (dk ddX5_areWithin 0 rfl) rfl ?_
  refine x_istore C (lv' := [(5, .int f), (0, .ref r), (1, .int f), (2, .int (nI 0)), (3, .long v)]) (dk ddX5_areWithin 1 rfl) (by decide) rfl ?_
  refine x_iload C (dk ddX5_areWithin 2 rfl) rfl ?_
  refine x_iload_n C (dk ddX5_areWithin 3 rfl) rfl ?_
  refine x_iload_n C (dk ddX5_areWithin 4 rfl) rfl ?_
  refine x_iadd C (dk ddX5_areWithin 5 rfl) ?_
  refine x_icmp_ge C (tgt := 44) (dk ddX5_areWithin 6 rfl) (by decide) (fun h8 => ?_) (fun h8 => ?_)
  · have h8c := Int32.not_lt.mpr h8
    refine x_iconst C (v := nI 1) (dk ddX5_areWithin 26 rfl) (by decide) ?_
    exact x_zret C rfl rfl ⟨rfl, rfl, rfl, rfl⟩ rfl rfl (dk ddX5_areWithin 27 rfl)
  · have h8c := Int32.not_le.mp h8
    exfalso
    exact h8 (by rw [ax_nI0, Int32.add_zero]; exact Int32.le_refl f)
set_option maxRecDepth 20000 in
/-- span, a number too great -/
theorem k_X10_span_unfit (l : Launch) (D : va_G) (T : Nat → ClassId) (o d : Nat) (G : ax_G) (I : ax_I) (L : ax_L) (a g j i n : Nat) (hC : ax_Cls G a) (hg : g < 6) (hj : j < 4) (hn : n ≤ 9) (hi : i + 3 * n ≤ 40) (hr : ax_rf (I (a + (623 + 2 * j)) 0) (I (a + (623 + 2 * j)) 1) (nI 1) (nI i) (nI (3 * n)) = nI 0) (hw : (ax_wi (L (a + (624 + 2 * j))) 99 i (3 * n)) = false) (hd : 5 ≤ d) : ax_Con l D T o yX10_span cX10_span 9 (some .int) d 0 0 [.ref a, .int (nI g), .int (nI j), .int (nI i), .int (nI n)] G I L (fun zz G' I' L' => zz = some (.int ((-1))) ∧ G = G' ∧ I = I' ∧ L = L') := by
  refine ax_enter (by decide +kernel) (Nat.le_of_ble_eq_true rfl) ?_
  intro p_ e_ s_ m_ args_ below_ meth_ c_ C _
  refine x_lvs (lv' := [(0, .ref a), (1, .int (nI g)), (2, .int (nI j)), (3, .int (nI i)), (4, .int (nI n))]) rfl ?_
  refine x_iload_n C (dk ddX10_span 0 rfl) rfl ?_
  refine x_callS C (As := [.int (nI g)]) (k_X10_isGroup l D T o (d - 1) G I L (nI g)) mlX10_98 ⟨by show d - 1 + 1 ≤ d; omega, by show 40 * (d - 1 + 1) ≤ 40 * d; omega⟩ ⟨Nat.le_refl _, Nat.le_refl _⟩ rfl (Nat.le_of_ble_eq_true rfl) (dk ddX10_span 1 rfl) ?_
  rintro v_ G_ I_ L_ ⟨rfl, rfl, rfl, rfl⟩
  rw [show (ax_rng (nI g) 6) = true from ax_rng_ok (h := 6) (by omega) (by decide)]
  refine x_if_eq_b C (tgt := 26) (dk ddX10_span 2 rfl) (by decide) (fun h_ => absurd h_ (by decide)) (fun _ => ?_)
  refine x_iload_n C (dk ddX10_span 3 rfl) rfl ?_
  refine x_callS C (As := [.int (nI j)]) (k_X10_isSheet l D T o (d - 1) G I L (nI j)) mlX10_183 ⟨by show d - 1 + 1 ≤ d; omega, by show 40 * (d - 1 + 1) ≤ 40 * d; omega⟩ ⟨Nat.le_refl _, Nat.le_refl _⟩ rfl (Nat.le_of_ble_eq_true rfl) (dk ddX10_span 4 rfl) ?_
  rintro v_ G_ I_ L_ ⟨rfl, rfl, rfl, rfl⟩
  rw [show (ax_rng (nI j) 4) = true from ax_rng_ok (h := 4) (by omega) (by decide)]
  refine x_if_eq_b C (tgt := 26) (dk ddX10_span 5 rfl) (by decide) (fun h_ => absurd h_ (by decide)) (fun _ => ?_)
  refine x_iload C (dk ddX10_span 6 rfl) rfl ?_
  refine x_if_lt_n C (tgt := 26) (dk ddX10_span 7 rfl) (by decide) (by omega) (fun h16 => ?_) (fun h16 => ?_)
  · exfalso
    omega
  · refine x_iload C (dk ddX10_span 8 rfl) rfl ?_
    refine x_bipush C (v := nI 9) (dk ddX10_span 9 rfl) (by decide) ?_
    refine x_icmp_le_n C (tgt := 28) (dk ddX10_span 10 rfl) (by decide) (by omega) (by decide) (fun h23 => ?_) (fun h23 => ?_)
    · refine x_aload_n C (dk ddX10_span 13 rfl) rfl ?_
      refine x_getr C flX10_46 rfl (by have h_ := hC.1; omega) hC.fld.1 (show ax_R G a 6 = some (a + 481) from hC.fld.2.2 (6, 481) (by decide)) (dk ddX10_span 14 rfl) ?_
      refine x_iload_n C (dk ddX10_span 15 rfl) rfl ?_
      refine x_aald5_n C hC.sheets.1 hC.sheets.2.1 hC.sheets.2.2 (by omega) (by decide) (hC.sheet (k := j) (by omega)).1 (dk ddX10_span 16 rfl) ?_
      refine x_astore C (lv' := [(5, .ref (a + (623 + 2 * j))), (0, .ref a), (1, .int (nI g)), (2, .int (nI j)), (3, .int (nI i)), (4, .int (nI n))]) (dk ddX10_span 17 rfl) (by decide) rfl ?_
      refine x_aload C (dk ddX10_span 18 rfl) rfl ?_
      refine x_iconst C (v := nI 1) (dk ddX10_span 19 rfl) (by decide) ?_
      refine x_iload_n C (dk ddX10_span 20 rfl) rfl ?_
      refine x_iconst C (v := nI 3) (dk ddX10_span 21 rfl) (by decide) ?_
      refine x_iload C (dk ddX10_span 22 rfl) rfl ?_
      refine x_imul_n C (dk ddX10_span 23 rfl) ?_
      refine x_callV C (ci := 5) (As := [.int (nI 1), .int (nI i), .int (nI (3 * n))]) (k_X5_refusal l D T o (d - 1) G I L (a + (623 + 2 * j)) (a + (624 + 2 * j)) (nI 1) (nI i) (nI (3 * n)) (hC.sheet (k := j) (by omega)).2) mlX10_186 rfl rfl (hC.sheet (k := j) (by omega)).2.1 (hC.sheet (k := j) (by omega)).2.2.1 ⟨by show d - 1 + 1 ≤ d; omega, by show 40 * (d - 1 + 1) ≤ 40 * d; omega⟩ ⟨Nat.le_refl _, Nat.le_refl _⟩ rfl (Nat.le_of_ble_eq_true rfl) (dk ddX10_span 24 rfl) ?_
      rintro v_ G_ I_ L_ ⟨rfl, rfl, rfl, rfl⟩
      rw [show (ax_rf (I (a + (623 + 2 * j)) 0) (I (a + (623 + 2 * j)) 1) (nI 1) (nI i) (nI (3 * n))) = nI 0 from hr]
      refine x_istore C (lv' := [(6, .int (nI 0)), (5, .ref (a + (623 + 2 * j))), (0, .ref a), (1, .int (nI g)), (2, .int (nI j)), (3, .int (nI i)), (4, .int (nI n))]) (dk ddX10_span 25 rfl) (by decide) rfl ?_
      refine x_iload C (dk ddX10_span 26 rfl) rfl ?_
      refine x_if_ge_n C (tgt := 57) (dk ddX10_span 27 rfl) (by decide) (by decide) (fun _ => ?_) (fun h_ => absurd h_ (by decide))
      refine x_aload C (dk ddX10_span 30 rfl) rfl ?_
      refine x_iload_n C (dk ddX10_span 31 rfl) rfl ?_
      refine x_iconst C (v := nI 3) (dk ddX10_span 32 rfl) (by decide) ?_
      refine x_iload C (dk ddX10_span 33 rfl) rfl ?_
      refine x_imul_n C (dk ddX10_span 34 rfl) ?_
      refine x_ldc2 C klX10_190 (dk ddX10_span 35 rfl) ?_
      refine x_callV C (ci := 5) (As := [.int (nI i), .int (nI (3 * n)), .long 99]) (k_X5_areWithin l D T o (d - 1) G I L (a + (623 + 2 * j)) (a + (624 + 2 * j)) i (3 * n) 99 (hC.sheet (k := j) (by omega)).2 (by omega)) mlX10_192 rfl rfl (hC.sheet (k := j) (by omega)).2.1 (hC.sheet (k := j) (by omega)).2.2.1 ⟨by show d - 1 + 1 ≤ d; omega, by show 40 * (d - 1 + 1) ≤ 40 * d; omega⟩ ⟨Nat.le_refl _, Nat.le_refl _⟩ rfl (Nat.le_of_ble_eq_true rfl) (dk ddX10_span 36 rfl) ?_
      rintro v_ G_ I_ L_ ⟨rfl, rfl, rfl, rfl⟩
      rw [show (ax_wi (L (a + (624 + 2 * j))) 99 i (3 * n)) = false from hw]
      refine x_if_ne_b C (tgt := 75) (dk ddX10_span 37 rfl) (by decide) (fun h_ => absurd h_ (by decide)) (fun _ => ?_)
      refine x_iconst C (v := (-1)) (dk ddX10_span 38 rfl) (by decide) ?_
      exact x_iret C rfl ⟨rfl, rfl, rfl, rfl⟩ rfl rfl (dk ddX10_span 39 rfl)
    · exfalso
      omega
/-- how often a Lattice is in a wider one -/
def ax_ixv (L : ax_L) (a w b v : Nat) : Int64 := if v = w then (if (ax_rkc b L v) = (ax_rkc a L w) then ((ax_ixw L a b w (1, 1)).1) / ((ax_ixw L a b w (1, 1)).2) else 0) else 0
theorem k_X2_indexWithinD (l : Launch) (D : va_G) (T : Nat → ClassId) (o d : Nat) (G : ax_G) (I : ax_I) (L : ax_L) (a w b v : Nat) (ha : ax_Lat G a) (hw : I a 2 = nI w) (hw6 : w ≤ 6) (hb : ax_Lat G b) (hv : I b 2 = nI v) (hv6 : v ≤ 6) (hne : ¬ (ax_ixw L a b w (1, 1)).2 = 0) (hd : 1 ≤ d) : ax_Con l D T o yX2_indexWithin cX2_indexWithin 7 (some .long) d 0 0 [.ref a, .ref b] G I L (fun zz G' I' L' => zz = some (.long (ax_ixv L a w b v)) ∧ G = G' ∧ I = I' ∧ L = L') := k_X2_indexWithin l D T o d G I L a w b v ha hw hw6 hb hv hv6 hne hd
/-- three numbers come to the row -/
def ax_spq (a : Nat) (j : Nat) (i : Nat) (e : Nat) : Nat → ax_L → ax_L
  | 0, J => J
  | n + 1, J => ax_u (ax_spq a j i e n J) (a + 621) n ((ax_spq a j i e n J) (a + (624 + 2 * j)) (i + 3 * e + n))
/-- so many elements come to the wider Lattice -/
def ax_spe (a : Nat) (g : Nat) (j : Nat) (i : Nat) (gn : Nat → Nat) : Nat → ax_L → ax_L
  | 0, J => J
  | n + 1, J => ax_inr (a + 606) (gn g) (a + 621) (ax_spq a j i n 3 (ax_spe a g j i gn n J))
set_option maxRecDepth 20000 in
/-- span(g, j, i, n) -/
theorem k_X10_span (l : Launch) (D : va_G) (T : Nat → ClassId) (o d : Nat) (G : ax_G) (I : ax_I) (L : ax_L) (a g j i n : Nat) (gn gc : Nat → Nat) (hC : ax_Cls G a) (hgn : ∀ g, g < 6 → I (a + 1 + 1) g = nI (gn g) ∧ gn g ≤ 3) (hgc : ∀ g, g < 6 → I (a + 1 + 2) g = nI (gc g) ∧ gc g ≤ 4) (hg : g < 6) (hj : j < 4) (hn : n ≤ 9) (hi : i + 3 * n ≤ 40) (hr : ax_rf (I (a + (623 + 2 * j)) 0) (I (a + (623 + 2 * j)) 1) (nI 1) (nI i) (nI (3 * n)) = nI 0) (hw : (ax_wi (L (a + (624 + 2 * j))) 99 i (3 * n)) = true) (hne : ¬ (ax_ixw (ax_spe a g j i gn n (ax_nth (ax_u I (a + 597) 2 (nI (gn g))) (a + 1) (a + 606) g (gn g) (gc g) (ax_nth I (a + 1) (a + 597) g (gn g) (gc g) L))) (a + 597) (a + 606) (gn g) (1, 1)).2 = 0) (hd : 6 ≤ d) : ax_Con l D T o yX10_span cX10_span 9 (some .int) d 0 0 [.ref a, .int (nI g), .int (nI j), .int (nI i), .int (nI n)] G I L (fun zz G' I' L' => zz = some (.int ((ax_ixv (ax_spe a g j i gn n (ax_nth (ax_u I (a + 597) 2 (nI (gn g))) (a + 1) (a + 606) g (gn g) (gc g) (ax_nth I (a + 1) (a + 597) g (gn g) (gc g) L))) (a + 597) (gn g) (a + 606) (gn g)).toInt32)) ∧ G = G' ∧ (ax_u (ax_u I (a + 597) 2 (nI (gn g))) (a + 606) 2 (nI (gn g))) = I' ∧ (ax_spe a g j i gn n (ax_nth (ax_u I (a + 597) 2 (nI (gn g))) (a + 1) (a + 606) g (gn g) (gc g) (ax_nth I (a + 1) (a + 597) g (gn g) (gc g) L))) = L') := by
  refine ax_enter (by decide +kernel) (Nat.le_of_ble_eq_true rfl) ?_
  intro p_ e_ s_ m_ args_ below_ meth_ c_ C _
  refine x_lvs (lv' := [(0, .ref a), (1, .int (nI g)), (2, .int (nI j)), (3, .int (nI i)), (4, .int (nI n))]) rfl ?_
  have hb_ := (hgn g hg).2
  refine x_iload_n C (dk ddX10_span 0 rfl) rfl ?_
  refine x_callS C (As := [.int (nI g)]) (k_X10_isGroup l D T o (d - 1) G I L (nI g)) mlX10_98 ⟨by show d - 1 + 1 ≤ d; omega, by show 40 * (d - 1 + 1) ≤ 40 * d; omega⟩ ⟨Nat.le_refl _, Nat.le_refl _⟩ rfl (Nat.le_of_ble_eq_true rfl) (dk ddX10_span 1 rfl) ?_
  rintro v_ G_ I_ L_ ⟨rfl, rfl, rfl, rfl⟩
  rw [show (ax_rng (nI g) 6) = true from ax_rng_ok (h := 6) (by omega) (by decide)]
  refine x_if_eq_b C (tgt := 26) (dk ddX10_span 2 rfl) (by decide) (fun h_ => absurd h_ (by decide)) (fun _ => ?_)
  refine x_iload_n C (dk ddX10_span 3 rfl) rfl ?_
  refine x_callS C (As := [.int (nI j)]) (k_X10_isSheet l D T o (d - 1) G I L (nI j)) mlX10_183 ⟨by show d - 1 + 1 ≤ d; omega, by show 40 * (d - 1 + 1) ≤ 40 * d; omega⟩ ⟨Nat.le_refl _, Nat.le_refl _⟩ rfl (Nat.le_of_ble_eq_true rfl) (dk ddX10_span 4 rfl) ?_
  rintro v_ G_ I_ L_ ⟨rfl, rfl, rfl, rfl⟩
  rw [show (ax_rng (nI j) 4) = true from ax_rng_ok (h := 4) (by omega) (by decide)]
  refine x_if_eq_b C (tgt := 26) (dk ddX10_span 5 rfl) (by decide) (fun h_ => absurd h_ (by decide)) (fun _ => ?_)
  refine x_iload C (dk ddX10_span 6 rfl) rfl ?_
  refine x_if_lt_n C (tgt := 26) (dk ddX10_span 7 rfl) (by decide) (by omega) (fun h16 => ?_) (fun h16 => ?_)
  · exfalso
    omega
  · refine x_iload C (dk ddX10_span 8 rfl) rfl ?_
    refine x_bipush C (v := nI 9) (dk ddX10_span 9 rfl) (by decide) ?_
    refine x_icmp_le_n C (tgt := 28) (dk ddX10_span 10 rfl) (by decide) (by omega) (by decide) (fun h23 => ?_) (fun h23 => ?_)
    · refine x_aload_n C (dk ddX10_span 13 rfl) rfl ?_
      refine x_getr C flX10_46 rfl (by have h_ := hC.1; omega) hC.fld.1 (show ax_R G a 6 = some (a + 481) from hC.fld.2.2 (6, 481) (by decide)) (dk ddX10_span 14 rfl) ?_
      refine x_iload_n C (dk ddX10_span 15 rfl) rfl ?_
      refine x_aald5_n C hC.sheets.1 hC.sheets.2.1 hC.sheets.2.2 (by omega) (by decide) (hC.sheet (k := j) (by omega)).1 (dk ddX10_span 16 rfl) ?_
      refine x_astore C (lv' := [(5, .ref (a + (623 + 2 * j))), (0, .ref a), (1, .int (nI g)), (2, .int (nI j)), (3, .int (nI i)), (4, .int (nI n))]) (dk ddX10_span 17 rfl) (by decide) rfl ?_
      refine x_aload C (dk ddX10_span 18 rfl) rfl ?_
      refine x_iconst C (v := nI 1) (dk ddX10_span 19 rfl) (by decide) ?_
      refine x_iload_n C (dk ddX10_span 20 rfl) rfl ?_
      refine x_iconst C (v := nI 3) (dk ddX10_span 21 rfl) (by decide) ?_
      refine x_iload C (dk ddX10_span 22 rfl) rfl ?_
      refine x_imul_n C (dk ddX10_span 23 rfl) ?_
      refine x_callV C (ci := 5) (As := [.int (nI 1), .int (nI i), .int (nI (3 * n))]) (k_X5_refusal l D T o (d - 1) G I L (a + (623 + 2 * j)) (a + (624 + 2 * j)) (nI 1) (nI i) (nI (3 * n)) (hC.sheet (k := j) (by omega)).2) mlX10_186 rfl rfl (hC.sheet (k := j) (by omega)).2.1 (hC.sheet (k := j) (by omega)).2.2.1 ⟨by show d - 1 + 1 ≤ d; omega, by show 40 * (d - 1 + 1) ≤ 40 * d; omega⟩ ⟨Nat.le_refl _, Nat.le_refl _⟩ rfl (Nat.le_of_ble_eq_true rfl) (dk ddX10_span 24 rfl) ?_
      rintro v_ G_ I_ L_ ⟨rfl, rfl, rfl, rfl⟩
      rw [show (ax_rf (I (a + (623 + 2 * j)) 0) (I (a + (623 + 2 * j)) 1) (nI 1) (nI i) (nI (3 * n))) = nI 0 from hr]
      refine x_istore C (lv' := [(6, .int (nI 0)), (5, .ref (a + (623 + 2 * j))), (0, .ref a), (1, .int (nI g)), (2, .int (nI j)), (3, .int (nI i)), (4, .int (nI n))]) (dk ddX10_span 25 rfl) (by decide) rfl ?_
      refine x_iload C (dk ddX10_span 26 rfl) rfl ?_
      refine x_if_ge_n C (tgt := 57) (dk ddX10_span 27 rfl) (by decide) (by decide) (fun _ => ?_) (fun h_ => absurd h_ (by decide))
      refine x_aload C (dk ddX10_span 30 rfl) rfl ?_
      refine x_iload_n C (dk ddX10_span 31 rfl) rfl ?_
      refine x_iconst C (v := nI 3) (dk ddX10_span 32 rfl) (by decide) ?_
      refine x_iload C (dk ddX10_span 33 rfl) rfl ?_
      refine x_imul_n C (dk ddX10_span 34 rfl) ?_
      refine x_ldc2 C klX10_190 (dk ddX10_span 35 rfl) ?_
      refine x_callV C (ci := 5) (As := [.int (nI i), .int (nI (3 * n)), .long 99]) (k_X5_areWithin l D T o (d - 1) G I L (a + (623 + 2 * j)) (a + (624 + 2 * j)) i (3 * n) 99 (hC.sheet (k := j) (by omega)).2 (by omega)) mlX10_192 rfl rfl (hC.sheet (k := j) (by omega)).2.1 (hC.sheet (k := j) (by omega)).2.2.1 ⟨by show d - 1 + 1 ≤ d; omega, by show 40 * (d - 1 + 1) ≤ 40 * d; omega⟩ ⟨Nat.le_refl _, Nat.le_refl _⟩ rfl (Nat.le_of_ble_eq_true rfl) (dk ddX10_span 36 rfl) ?_
      rintro v_ G_ I_ L_ ⟨rfl, rfl, rfl, rfl⟩
      rw [show (ax_wi (L (a + (624 + 2 * j))) 99 i (3 * n)) = true from hw]
      refine x_if_ne_b C (tgt := 75) (dk ddX10_span 37 rfl) (by decide) (fun _ => ?_) (fun h_ => absurd h_ (by decide))
      refine x_aload_n C (dk ddX10_span 40 rfl) rfl ?_
      refine x_getr C flX10_10 rfl (by have h_ := hC.1; omega) hC.fld.1 (show ax_R G a 0 = some (a + 1) from hC.fld.2.2 (0, 1) (by decide)) (dk ddX10_span 41 rfl) ?_
      refine x_iload_n C (dk ddX10_span 42 rfl) rfl ?_
      refine x_aload_n C (dk ddX10_span 43 rfl) rfl ?_
      refine x_getr C flX10_69 rfl (by have h_ := hC.1; omega) hC.fld.1 (show ax_R G a 10 = some (a + 597) from hC.fld.2.2 (10, 597) (by decide)) (dk ddX10_span 44 rfl) ?_
      refine x_callV C (ci := 7) (As := [.int (nI g), .ref (a + 597)]) (k_X7_fill l D T o (d - 1) G I L (a + 1) g (a + 597) (gn g) (gc g) hC.state hC.nothing (by omega) (by omega) (by repeat (first | exact ax_u_at _ _ _ _ | exact (hgn g (by omega)).1 | rw [ax_u_ne (by omega)] | rw [ax_u_nj (by decide)] | rw [ax_sc_ne (by omega)] | rw [ax_rem_ne (by omega) (by omega)] | unfold ax_ldI | unfold ax_woI | unfold ax_rxI | unfold ax_frI0 | unfold ax_frI1 | unfold ax_frI2 | rw [hI_ _ (by omega)] | rw [hN_ (by omega)])) (hgn g (by omega)).2 (by repeat (first | exact ax_u_at _ _ _ _ | exact (hgc g (by omega)).1 | rw [ax_u_ne (by omega)] | rw [ax_u_nj (by decide)] | rw [ax_sc_ne (by omega)] | rw [ax_rem_ne (by omega) (by omega)] | unfold ax_ldI | unfold ax_woI | unfold ax_rxI | unfold ax_frI0 | unfold ax_frI1 | unfold ax_frI2 | rw [hI_ _ (by omega)] | rw [hN_ (by omega)])) (hgc g (by omega)).2 (by omega)) mlX10_137 rfl rfl (by have h_ := hC.state.1; omega) (show ax_K G (a + 1) = 8 + 7 from (hC.state.2 0 _ rfl).1) ⟨by show d - 1 + 1 ≤ d; omega, by show 40 * (d - 1 + 1) ≤ 40 * d; omega⟩ ⟨Nat.le_refl _, Nat.le_refl _⟩ rfl (Nat.le_of_ble_eq_true rfl) (dk ddX10_span 45 rfl) ?_
      rintro v_ G_ I_ L_ ⟨rfl, rfl, rfl, rfl⟩
      refine x_aload_n C (dk ddX10_span 46 rfl) rfl ?_
      refine x_getr C flX10_10 rfl (by have h_ := hC.1; omega) hC.fld.1 (show ax_R G a 0 = some (a + 1) from hC.fld.2.2 (0, 1) (by decide)) (dk ddX10_span 47 rfl) ?_
      refine x_iload_n C (dk ddX10_span 48 rfl) rfl ?_
      refine x_aload_n C (dk ddX10_span 49 rfl) rfl ?_
      refine x_getr C flX10_73 rfl (by have h_ := hC.1; omega) hC.fld.1 (show ax_R G a 11 = some (a + 606) from hC.fld.2.2 (11, 606) (by decide)) (dk ddX10_span 50 rfl) ?_
      refine x_callV C (ci := 7) (As := [.int (nI g), .ref (a + 606)]) (k_X7_fill l D T o (d - 1) G (ax_u I (a + 597) 2 (nI (gn g))) (ax_nth I (a + 1) (a + 597) g (gn g) (gc g) L) (a + 1) g (a + 606) (gn g) (gc g) hC.state hC.wider (by omega) (by omega) (by repeat (first | exact ax_u_at _ _ _ _ | exact (hgn g (by omega)).1 | rw [ax_u_ne (by omega)] | rw [ax_u_nj (by decide)] | rw [ax_sc_ne (by omega)] | rw [ax_rem_ne (by omega) (by omega)] | unfold ax_ldI | unfold ax_woI | unfold ax_rxI | unfold ax_frI0 | unfold ax_frI1 | unfold ax_frI2 | rw [hI_ _ (by omega)] | rw [hN_ (by omega)])) (hgn g (by omega)).2 (by repeat (first | exact ax_u_at _ _ _ _ | exact (hgc g (by omega)).1 | rw [ax_u_ne (by omega)] | rw [ax_u_nj (by decide)] | rw [ax_sc_ne (by omega)] | rw [ax_rem_ne (by omega) (by omega)] | unfold ax_ldI | unfold ax_woI | unfold ax_rxI | unfold ax_frI0 | unfold ax_frI1 | unfold ax_frI2 | rw [hI_ _ (by omega)] | rw [hN_ (by omega)])) (hgc g (by omega)).2 (by omega)) mlX10_137 rfl rfl (by have h_ := hC.state.1; omega) (show ax_K G (a + 1) = 8 + 7 from (hC.state.2 0 _ rfl).1) ⟨by show d - 1 + 1 ≤ d; omega, by show 40 * (d - 1 + 1) ≤ 40 * d; omega⟩ ⟨Nat.le_refl _, Nat.le_refl _⟩ rfl (Nat.le_of_ble_eq_true rfl) (dk ddX10_span 51 rfl) ?_
      rintro v_ G_ I_ L_ ⟨rfl, rfl, rfl, rfl⟩
      refine x_iconst C (v := nI 0) (dk ddX10_span 52 rfl) (by decide) ?_
      refine x_istore C (lv' := [(7, .int (nI 0)), (6, .int (nI 0)), (5, .ref (a + (623 + 2 * j))), (0, .ref a), (1, .int (nI g)), (2, .int (nI j)), (3, .int (nI i)), (4, .int (nI n))]) (dk ddX10_span 53 rfl) (by decide) rfl ?_
      have hl42 : ∀ (n_42 e : Nat), e + n_42 = n → ax_XM p_ l e_ s_ m_ args_ below_ meth_ c_ 9 D T o d 0 0 G (fun zz G' I' L' => zz = some (.int ((ax_ixv (ax_spe a g j i gn n (ax_nth (ax_u I (a + 597) 2 (nI (gn g))) (a + 1) (a + 606) g (gn g) (gc g) (ax_nth I (a + 1) (a + 597) g (gn g) (gc g) L))) (a + 597) (gn g) (a + 606) (gn g)).toInt32)) ∧ G = G' ∧ (ax_u (ax_u I (a + 597) 2 (nI (gn g))) (a + 606) 2 (nI (gn g))) = I' ∧ (ax_spe a g j i gn n (ax_nth (ax_u I (a + 597) 2 (nI (gn g))) (a + 1) (a + 606) g (gn g) (gc g) (ax_nth I (a + 1) (a + 597) g (gn g) (gc g) L))) = L') G (ax_u (ax_u I (a + 597) 2 (nI (gn g))) (a + 606) 2 (nI (gn g))) (ax_spe a g j i gn e (ax_nth (ax_u I (a + 597) 2 (nI (gn g))) (a + 1) (a + 606) g (gn g) (gc g) (ax_nth I (a + 1) (a + 597) g (gn g) (gc g) L))) 102 [(7, .int (nI e)), (6, .int (nI 0)), (5, .ref (a + (623 + 2 * j))), (0, .ref a), (1, .int (nI g)), (2, .int (nI j)), (3, .int (nI i)), (4, .int (nI n))] [] := by
        intro n_42
        induction n_42 with
        | zero =>
          intro e hk_42
          rw [show e = n by omega]
          refine x_iload C (dk ddX10_span 54 rfl) rfl ?_
          refine x_iload C (dk ddX10_span 55 rfl) rfl ?_
          refine x_icmp_ge_n C (tgt := 163) (dk ddX10_span 56 rfl) (by decide) (by omega) (by omega) (fun h106 => ?_) (fun h106 => ?_)
          · refine x_aload_n C (dk ddX10_span 85 rfl) rfl ?_
            refine x_getr C flX10_69 rfl (by have h_ := hC.1; omega) hC.fld.1 (show ax_R G a 10 = some (a + 597) from hC.fld.2.2 (10, 597) (by decide)) (dk ddX10_span 86 rfl) ?_
            refine x_aload_n C (dk ddX10_span 87 rfl) rfl ?_
            refine x_getr C flX10_73 rfl (by have h_ := hC.1; omega) hC.fld.1 (show ax_R G a 11 = some (a + 606) from hC.fld.2.2 (11, 606) (by decide)) (dk ddX10_span 88 rfl) ?_
            refine x_callV C (ci := 2) (As := [.ref (a + 606)]) (k_X2_indexWithinD l D T o (d - 1) G (ax_u (ax_u I (a + 597) 2 (nI (gn g))) (a + 606) 2 (nI (gn g))) (ax_spe a g j i gn n (ax_nth (ax_u I (a + 597) 2 (nI (gn g))) (a + 1) (a + 606) g (gn g) (gc g) (ax_nth I (a + 1) (a + 597) g (gn g) (gc g) L))) (a + 597) (gn g) (a + 606) (gn g) hC.nothing (by repeat (first | exact ax_u_at _ _ _ _ | rw [ax_u_ne (by omega)] | rw [ax_u_nj (by decide)] | rw [ax_sc_ne (by omega)] | rw [ax_rem_ne (by omega) (by omega)] | unfold ax_ldI | unfold ax_woI | unfold ax_rxI | unfold ax_frI0 | unfold ax_frI1 | unfold ax_frI2 | rw [hI_ _ (by omega)] | rw [hN_ (by omega)])) (Nat.le_trans (hgn g (by omega)).2 (by decide)) hC.wider (by repeat (first | exact ax_u_at _ _ _ _ | rw [ax_u_ne (by omega)] | rw [ax_u_nj (by decide)] | rw [ax_sc_ne (by omega)] | rw [ax_rem_ne (by omega) (by omega)] | unfold ax_ldI | unfold ax_woI | unfold ax_rxI | unfold ax_frI0 | unfold ax_frI1 | unfold ax_frI2 | rw [hI_ _ (by omega)] | rw [hN_ (by omega)])) (Nat.le_trans (hgn g (by omega)).2 (by decide)) hne (by omega)) mlX10_201 rfl rfl (by have h_ := hC.nothing.1; omega) hC.nothing.2.1 ⟨by show d - 1 + 1 ≤ d; omega, by show 40 * (d - 1 + 1) ≤ 40 * d; omega⟩ ⟨Nat.le_refl _, Nat.le_refl _⟩ rfl (Nat.le_of_ble_eq_true rfl) (dk ddX10_span 89 rfl) ?_
            rintro v_ G_ I_ L_ ⟨rfl, rfl, rfl, rfl⟩
            refine x_l2i C (dk ddX10_span 90 rfl) ?_
            exact x_iret C rfl ⟨rfl, rfl, rfl, rfl⟩ rfl rfl (dk ddX10_span 91 rfl)
          · exfalso
            omega
        | succ n_42 ih_42 =>
          intro e hk_42
          refine x_iload C (dk ddX10_span 54 rfl) rfl ?_
          refine x_iload C (dk ddX10_span 55 rfl) rfl ?_
          refine x_icmp_ge_n C (tgt := 163) (dk ddX10_span 56 rfl) (by decide) (by omega) (by omega) (fun h106 => ?_) (fun h106 => ?_)
          · exfalso
            omega
          · refine x_iconst C (v := nI 0) (dk ddX10_span 57 rfl) (by decide) ?_
            refine x_istore C (lv' := [(8, .int (nI 0)), (7, .int (nI e)), (6, .int (nI 0)), (5, .ref (a + (623 + 2 * j))), (0, .ref a), (1, .int (nI g)), (2, .int (nI j)), (3, .int (nI i)), (4, .int (nI n))]) (dk ddX10_span 58 rfl) (by decide) rfl ?_
            have hl41 : ∀ (n_41 q : Nat), q + n_41 = 3 → ax_XM p_ l e_ s_ m_ args_ below_ meth_ c_ 9 D T o d 0 0 G (fun zz G' I' L' => zz = some (.int ((ax_ixv (ax_spe a g j i gn n (ax_nth (ax_u I (a + 597) 2 (nI (gn g))) (a + 1) (a + 606) g (gn g) (gc g) (ax_nth I (a + 1) (a + 597) g (gn g) (gc g) L))) (a + 597) (gn g) (a + 606) (gn g)).toInt32)) ∧ G = G' ∧ (ax_u (ax_u I (a + 597) 2 (nI (gn g))) (a + 606) 2 (nI (gn g))) = I' ∧ (ax_spe a g j i gn n (ax_nth (ax_u I (a + 597) 2 (nI (gn g))) (a + 1) (a + 606) g (gn g) (gc g) (ax_nth I (a + 1) (a + 597) g (gn g) (gc g) L))) = L') G (ax_u (ax_u I (a + 597) 2 (nI (gn g))) (a + 606) 2 (nI (gn g))) (ax_spq a j i e q (ax_spe a g j i gn e (ax_nth (ax_u I (a + 597) 2 (nI (gn g))) (a + 1) (a + 606) g (gn g) (gc g) (ax_nth I (a + 1) (a + 597) g (gn g) (gc g) L)))) 112 [(8, .int (nI q)), (7, .int (nI e)), (6, .int (nI 0)), (5, .ref (a + (623 + 2 * j))), (0, .ref a), (1, .int (nI g)), (2, .int (nI j)), (3, .int (nI i)), (4, .int (nI n))] [] := by
              intro n_41
              induction n_41 with
              | zero =>
                intro q hk_41
                rw [show q = 3 by omega]
                refine x_iload C (dk ddX10_span 59 rfl) rfl ?_
                refine x_iconst C (v := nI 3) (dk ddX10_span 60 rfl) (by decide) ?_
                refine x_icmp_ge_n C (tgt := 146) (dk ddX10_span 61 rfl) (by decide) (by decide) (by decide) (fun _ => ?_) (fun h_ => absurd h_ (by decide))
                refine x_aload_n C (dk ddX10_span 78 rfl) rfl ?_
                refine x_getr C flX10_73 rfl (by have h_ := hC.1; omega) hC.fld.1 (show ax_R G a 11 = some (a + 606) from hC.fld.2.2 (11, 606) (by decide)) (dk ddX10_span 79 rfl) ?_
                refine x_aload_n C (dk ddX10_span 80 rfl) rfl ?_
                refine x_getr C flX10_89 rfl (by have h_ := hC.1; omega) hC.fld.1 (show ax_R G a 15 = some (a + 621) from hC.fld.2.2 (15, 621) (by decide)) (dk ddX10_span 81 rfl) ?_
                refine x_callV C (ci := 2) (As := [.ref (a + 621)]) (k_X2_insr l D T o (d - 1) G (ax_u (ax_u I (a + 597) 2 (nI (gn g))) (a + 606) 2 (nI (gn g))) (ax_spq a j i e 3 (ax_spe a g j i gn e (ax_nth (ax_u I (a + 597) 2 (nI (gn g))) (a + 1) (a + 606) g (gn g) (gc g) (ax_nth I (a + 1) (a + 597) g (gn g) (gc g) L)))) (a + 606) (gn g) (a + 621) 6 hC.wider (by repeat (first | exact ax_u_at _ _ _ _ | rw [ax_u_ne (by omega)] | rw [ax_u_nj (by decide)] | rw [ax_sc_ne (by omega)] | rw [ax_rem_ne (by omega) (by omega)] | unfold ax_ldI | unfold ax_woI | unfold ax_rxI | unfold ax_frI0 | unfold ax_frI1 | unfold ax_frI2 | rw [hI_ _ (by omega)] | rw [hN_ (by omega)])) (by omega) ⟨hC.row.1, hC.row.2.1, hC.row.2.2⟩ (by decide) (by omega)) mlX10_198 rfl rfl (by have h_ := hC.wider.1; omega) hC.wider.2.1 ⟨by show d - 1 + 1 ≤ d; omega, by show 40 * (d - 1 + 1) ≤ 40 * d; omega⟩ ⟨Nat.le_refl _, Nat.le_refl _⟩ rfl (Nat.le_of_ble_eq_true rfl) (dk ddX10_span 82 rfl) ?_
                rintro v_ G_ I_ L_ ⟨rfl, rfl, rfl, rfl⟩
                refine x_iinc C (v := nI (e + 1)) (lv' := [(7, .int (nI (e + 1))), (8, .int (nI 3)), (6, .int (nI 0)), (5, .ref (a + (623 + 2 * j))), (0, .ref a), (1, .int (nI g)), (2, .int (nI j)), (3, .int (nI i)), (4, .int (nI n))]) (dk ddX10_span 83 rfl) rfl (nI_add e 1) (by decide) rfl ?_
                refine x_goto C (tgt := 102) (dk ddX10_span 84 rfl) (by decide) ?_
                have e_ : ax_spe a g j i gn (e + 1) (ax_nth (ax_u I (a + 597) 2 (nI (gn g))) (a + 1) (a + 606) g (gn g) (gc g) (ax_nth I (a + 1) (a + 597) g (gn g) (gc g) L)) = ax_inr (a + 606) (gn g) (a + 621) (ax_spq a j i e 3 (ax_spe a g j i gn e (ax_nth (ax_u I (a + 597) 2 (nI (gn g))) (a + 1) (a + 606) g (gn g) (gc g) (ax_nth I (a + 1) (a + 597) g (gn g) (gc g) L)))) := rfl
                refine x_sub [0, 2, 3, 4, 5, 6, 7, 8] (lv' := [(7, .int (nI (e + 1))), (6, .int (nI 0)), (5, .ref (a + (623 + 2 * j))), (0, .ref a), (1, .int (nI g)), (2, .int (nI j)), (3, .int (nI i)), (4, .int (nI n))]) rfl ?_
                have h_ := ih_42 (e + 1) (by omega)
                rw [e_] at h_
                exact h_
              | succ n_41 ih_41 =>
                intro q hk_41
                refine x_iload C (dk ddX10_span 59 rfl) rfl ?_
                refine x_iconst C (v := nI 3) (dk ddX10_span 60 rfl) (by decide) ?_
                refine x_icmp_ge_n C (tgt := 146) (dk ddX10_span 61 rfl) (by decide) (by omega) (by decide) (fun h115 => ?_) (fun h115 => ?_)
                · exfalso
                  omega
                · refine x_aload_n C (dk ddX10_span 62 rfl) rfl ?_
                  refine x_getr C flX10_89 rfl (by have h_ := hC.1; omega) hC.fld.1 (show ax_R G a 15 = some (a + 621) from hC.fld.2.2 (15, 621) (by decide)) (dk ddX10_span 63 rfl) ?_
                  refine x_iload C (dk ddX10_span 64 rfl) rfl ?_
                  refine x_aload C (dk ddX10_span 65 rfl) rfl ?_
                  refine x_getr C flX10_195 rfl (hC.sheet (k := j) (by omega)).2.1 (hC.sheet (k := j) (by omega)).2.2.1 (hC.sheet (k := j) (by omega)).2.2.2.1 (dk ddX10_span 66 rfl) ?_
                  refine x_iload_n C (dk ddX10_span 67 rfl) rfl ?_
                  refine x_iconst C (v := nI 3) (dk ddX10_span 68 rfl) (by decide) ?_
                  refine x_iload C (dk ddX10_span 69 rfl) rfl ?_
                  refine x_imul_n C (dk ddX10_span 70 rfl) ?_
                  refine x_iadd_n C (dk ddX10_span 71 rfl) ?_
                  refine x_iload C (dk ddX10_span 72 rfl) rfl ?_
                  refine x_iadd_n C (dk ddX10_span 73 rfl) ?_
                  refine x_lald_n C (hC.sheet (k := j) (by omega)).2.2.2.2.1 (hC.sheet (k := j) (by omega)).2.2.2.2.2.1 (hC.sheet (k := j) (by omega)).2.2.2.2.2.2 (by omega) (by decide) (dk ddX10_span 74 rfl) ?_
                  refine x_last_n C hC.row.1 hC.row.2.1 hC.row.2.2 (by omega) (by decide) (dk ddX10_span 75 rfl) ?_
                  refine x_iinc C (v := nI (q + 1)) (lv' := [(8, .int (nI (q + 1))), (7, .int (nI e)), (6, .int (nI 0)), (5, .ref (a + (623 + 2 * j))), (0, .ref a), (1, .int (nI g)), (2, .int (nI j)), (3, .int (nI i)), (4, .int (nI n))]) (dk ddX10_span 76 rfl) rfl (nI_add q 1) (by decide) rfl ?_
                  refine x_goto C (tgt := 112) (dk ddX10_span 77 rfl) (by decide) ?_
                  have e_ : ax_spq a j i e (q + 1) (ax_spe a g j i gn e (ax_nth (ax_u I (a + 597) 2 (nI (gn g))) (a + 1) (a + 606) g (gn g) (gc g) (ax_nth I (a + 1) (a + 597) g (gn g) (gc g) L))) = ax_u (ax_spq a j i e q (ax_spe a g j i gn e (ax_nth (ax_u I (a + 597) 2 (nI (gn g))) (a + 1) (a + 606) g (gn g) (gc g) (ax_nth I (a + 1) (a + 597) g (gn g) (gc g) L)))) (a + 621) q ((ax_spq a j i e q (ax_spe a g j i gn e (ax_nth (ax_u I (a + 597) 2 (nI (gn g))) (a + 1) (a + 606) g (gn g) (gc g) (ax_nth I (a + 1) (a + 597) g (gn g) (gc g) L)))) (a + (624 + 2 * j)) (i + 3 * e + q)) := rfl
                  refine x_sub [0, 1, 2, 3, 4, 5, 6, 7, 8] (lv' := [(8, .int (nI (q + 1))), (7, .int (nI e)), (6, .int (nI 0)), (5, .ref (a + (623 + 2 * j))), (0, .ref a), (1, .int (nI g)), (2, .int (nI j)), (3, .int (nI i)), (4, .int (nI n))]) rfl ?_
                  have h_ := ih_41 (q + 1) (by omega)
                  rw [e_] at h_
                  exact h_
            refine x_sub [0, 1, 2, 3, 4, 5, 6, 7, 8] (lv' := [(8, .int (nI 0)), (7, .int (nI e)), (6, .int (nI 0)), (5, .ref (a + (623 + 2 * j))), (0, .ref a), (1, .int (nI g)), (2, .int (nI j)), (3, .int (nI i)), (4, .int (nI n))]) rfl ?_
            exact hl41 3 0 (by omega)
      refine x_sub [0, 1, 2, 3, 4, 5, 6, 7] (lv' := [(7, .int (nI 0)), (6, .int (nI 0)), (5, .ref (a + (623 + 2 * j))), (0, .ref a), (1, .int (nI g)), (2, .int (nI j)), (3, .int (nI i)), (4, .int (nI n))]) rfl ?_
      exact hl42 n 0 (by omega)
    · exfalso
      omega
set_option maxRecDepth 20000 in
/-- span(g, j, i, 0) -/
theorem k_X10_span_0 (l : Launch) (D : va_G) (T : Nat → ClassId) (o d : Nat) (G : ax_G) (I : ax_I) (L : ax_L) (a g j : Nat) (i : Int32) (gn gc : Nat → Nat) (hC : ax_Cls G a) (hgn : ∀ g, g < 6 → I (a + 1 + 1) g = nI (gn g) ∧ gn g ≤ 3) (hgc : ∀ g, g < 6 → I (a + 1 + 2) g = nI (gc g) ∧ gc g ≤ 4) (hg : g < 6) (hj : j < 4) (hr : ax_rf (I (a + (623 + 2 * j)) 0) (I (a + (623 + 2 * j)) 1) (nI 1) i (nI 0) = nI 0) (hne : ¬ (ax_ixw (ax_nth (ax_u I (a + 597) 2 (nI (gn g))) (a + 1) (a + 606) g (gn g) (gc g) (ax_nth I (a + 1) (a + 597) g (gn g) (gc g) L)) (a + 597) (a + 606) (gn g) (1, 1)).2 = 0) (hd : 6 ≤ d) : ax_Con l D T o yX10_span cX10_span 9 (some .int) d 0 0 [.ref a, .int (nI g), .int (nI j), .int i, .int (nI 0)] G I L (fun zz G' I' L' => zz = some (.int ((ax_ixv (ax_nth (ax_u I (a + 597) 2 (nI (gn g))) (a + 1) (a + 606) g (gn g) (gc g) (ax_nth I (a + 1) (a + 597) g (gn g) (gc g) L)) (a + 597) (gn g) (a + 606) (gn g)).toInt32)) ∧ G = G' ∧ (ax_u (ax_u I (a + 597) 2 (nI (gn g))) (a + 606) 2 (nI (gn g))) = I' ∧ (ax_nth (ax_u I (a + 597) 2 (nI (gn g))) (a + 1) (a + 606) g (gn g) (gc g) (ax_nth I (a + 1) (a + 597) g (gn g) (gc g) L)) = L') := by
  refine ax_enter (by decide +kernel) (Nat.le_of_ble_eq_true rfl) ?_
  intro p_ e_ s_ m_ args_ below_ meth_ c_ C _
  refine x_lvs (lv' := [(0, .ref a), (1, .int (nI g)), (2, .int (nI j)), (3, .int i), (4, .int (nI 0))]) rfl ?_
  have hb_ := (hgn g hg).2
  refine x_iload_n C (dk ddX10_span 0 rfl) rfl ?_
  refine x_callS C (As := [.int (nI g)]) (k_X10_isGroup l D T o (d - 1) G I L (nI g)) mlX10_98 ⟨by show d - 1 + 1 ≤ d; omega, by show 40 * (d - 1 + 1) ≤ 40 * d; omega⟩ ⟨Nat.le_refl _, Nat.le_refl _⟩ rfl (Nat.le_of_ble_eq_true rfl) (dk ddX10_span 1 rfl) ?_
  rintro v_ G_ I_ L_ ⟨rfl, rfl, rfl, rfl⟩
  rw [show (ax_rng (nI g) 6) = true from ax_rng_ok (h := 6) (by omega) (by decide)]
  refine x_if_eq_b C (tgt := 26) (dk ddX10_span 2 rfl) (by decide) (fun h_ => absurd h_ (by decide)) (fun _ => ?_)
  refine x_iload_n C (dk ddX10_span 3 rfl) rfl ?_
  refine x_callS C (As := [.int (nI j)]) (k_X10_isSheet l D T o (d - 1) G I L (nI j)) mlX10_183 ⟨by show d - 1 + 1 ≤ d; omega, by show 40 * (d - 1 + 1) ≤ 40 * d; omega⟩ ⟨Nat.le_refl _, Nat.le_refl _⟩ rfl (Nat.le_of_ble_eq_true rfl) (dk ddX10_span 4 rfl) ?_
  rintro v_ G_ I_ L_ ⟨rfl, rfl, rfl, rfl⟩
  rw [show (ax_rng (nI j) 4) = true from ax_rng_ok (h := 4) (by omega) (by decide)]
  refine x_if_eq_b C (tgt := 26) (dk ddX10_span 5 rfl) (by decide) (fun h_ => absurd h_ (by decide)) (fun _ => ?_)
  refine x_iload C (dk ddX10_span 6 rfl) rfl ?_
  refine x_if_lt_n C (tgt := 26) (dk ddX10_span 7 rfl) (by decide) (by decide) (fun h_ => absurd h_ (by decide)) (fun _ => ?_)
  refine x_iload C (dk ddX10_span 8 rfl) rfl ?_
  refine x_bipush C (v := nI 9) (dk ddX10_span 9 rfl) (by decide) ?_
  refine x_icmp_le_n C (tgt := 28) (dk ddX10_span 10 rfl) (by decide) (by decide) (by decide) (fun _ => ?_) (fun h_ => absurd h_ (by decide))
  refine x_aload_n C (dk ddX10_span 13 rfl) rfl ?_
  refine x_getr C flX10_46 rfl (by have h_ := hC.1; omega) hC.fld.1 (show ax_R G a 6 = some (a + 481) from hC.fld.2.2 (6, 481) (by decide)) (dk ddX10_span 14 rfl) ?_
  refine x_iload_n C (dk ddX10_span 15 rfl) rfl ?_
  refine x_aald5_n C hC.sheets.1 hC.sheets.2.1 hC.sheets.2.2 (by omega) (by decide) (hC.sheet (k := j) (by omega)).1 (dk ddX10_span 16 rfl) ?_
  refine x_astore C (lv' := [(5, .ref (a + (623 + 2 * j))), (0, .ref a), (1, .int (nI g)), (2, .int (nI j)), (3, .int i), (4, .int (nI 0))]) (dk ddX10_span 17 rfl) (by decide) rfl ?_
  refine x_aload C (dk ddX10_span 18 rfl) rfl ?_
  refine x_iconst C (v := nI 1) (dk ddX10_span 19 rfl) (by decide) ?_
  refine x_iload_n C (dk ddX10_span 20 rfl) rfl ?_
  refine x_iconst C (v := nI 3) (dk ddX10_span 21 rfl) (by decide) ?_
  refine x_iload C (dk ddX10_span 22 rfl) rfl ?_
  refine x_imul_n C (dk ddX10_span 23 rfl) ?_
  refine x_callV C (ci := 5) (As := [.int (nI 1), .int i, .int (nI 0)]) (k_X5_refusal l D T o (d - 1) G I L (a + (623 + 2 * j)) (a + (624 + 2 * j)) (nI 1) i (nI 0) (hC.sheet (k := j) (by omega)).2) mlX10_186 rfl rfl (hC.sheet (k := j) (by omega)).2.1 (hC.sheet (k := j) (by omega)).2.2.1 ⟨by show d - 1 + 1 ≤ d; omega, by show 40 * (d - 1 + 1) ≤ 40 * d; omega⟩ ⟨Nat.le_refl _, Nat.le_refl _⟩ rfl (Nat.le_of_ble_eq_true rfl) (dk ddX10_span 24 rfl) ?_
  rintro v_ G_ I_ L_ ⟨rfl, rfl, rfl, rfl⟩
  rw [show (ax_rf (I (a + (623 + 2 * j)) 0) (I (a + (623 + 2 * j)) 1) (nI 1) i (nI 0)) = nI 0 from hr]
  refine x_istore C (lv' := [(6, .int (nI 0)), (5, .ref (a + (623 + 2 * j))), (0, .ref a), (1, .int (nI g)), (2, .int (nI j)), (3, .int i), (4, .int (nI 0))]) (dk ddX10_span 25 rfl) (by decide) rfl ?_
  refine x_iload C (dk ddX10_span 26 rfl) rfl ?_
  refine x_if_ge_n C (tgt := 57) (dk ddX10_span 27 rfl) (by decide) (by decide) (fun _ => ?_) (fun h_ => absurd h_ (by decide))
  refine x_aload C (dk ddX10_span 30 rfl) rfl ?_
  refine x_iload_n C (dk ddX10_span 31 rfl) rfl ?_
  refine x_iconst C (v := nI 3) (dk ddX10_span 32 rfl) (by decide) ?_
  refine x_iload C (dk ddX10_span 33 rfl) rfl ?_
  refine x_imul_n C (dk ddX10_span 34 rfl) ?_
  refine x_ldc2 C klX10_190 (dk ddX10_span 35 rfl) ?_
  refine x_callV C (ci := 5) (As := [.int i, .int (nI 0), .long 99]) (k_X5_areWithin_0 l D T o (d - 1) G I L (a + (623 + 2 * j)) (a + (624 + 2 * j)) i 99 (hC.sheet (k := j) (by omega)).2) mlX10_192 rfl rfl (hC.sheet (k := j) (by omega)).2.1 (hC.sheet (k := j) (by omega)).2.2.1 ⟨by show d - 1 + 1 ≤ d; omega, by show 40 * (d - 1 + 1) ≤ 40 * d; omega⟩ ⟨Nat.le_refl _, Nat.le_refl _⟩ rfl (Nat.le_of_ble_eq_true rfl) (dk ddX10_span 36 rfl) ?_
  rintro v_ G_ I_ L_ ⟨rfl, rfl, rfl, rfl⟩
  refine x_if_ne_b C (tgt := 75) (dk ddX10_span 37 rfl) (by decide) (fun _ => ?_) (fun h_ => absurd h_ (by decide))
  refine x_aload_n C (dk ddX10_span 40 rfl) rfl ?_
  refine x_getr C flX10_10 rfl (by have h_ := hC.1; omega) hC.fld.1 (show ax_R G a 0 = some (a + 1) from hC.fld.2.2 (0, 1) (by decide)) (dk ddX10_span 41 rfl) ?_
  refine x_iload_n C (dk ddX10_span 42 rfl) rfl ?_
  refine x_aload_n C (dk ddX10_span 43 rfl) rfl ?_
  refine x_getr C flX10_69 rfl (by have h_ := hC.1; omega) hC.fld.1 (show ax_R G a 10 = some (a + 597) from hC.fld.2.2 (10, 597) (by decide)) (dk ddX10_span 44 rfl) ?_
  refine x_callV C (ci := 7) (As := [.int (nI g), .ref (a + 597)]) (k_X7_fill l D T o (d - 1) G I L (a + 1) g (a + 597) (gn g) (gc g) hC.state hC.nothing (by omega) (by omega) (by repeat (first | exact ax_u_at _ _ _ _ | exact (hgn g (by omega)).1 | rw [ax_u_ne (by omega)] | rw [ax_u_nj (by decide)] | rw [ax_sc_ne (by omega)] | rw [ax_rem_ne (by omega) (by omega)] | unfold ax_ldI | unfold ax_woI | unfold ax_rxI | unfold ax_frI0 | unfold ax_frI1 | unfold ax_frI2 | rw [hI_ _ (by omega)] | rw [hN_ (by omega)])) (hgn g (by omega)).2 (by repeat (first | exact ax_u_at _ _ _ _ | exact (hgc g (by omega)).1 | rw [ax_u_ne (by omega)] | rw [ax_u_nj (by decide)] | rw [ax_sc_ne (by omega)] | rw [ax_rem_ne (by omega) (by omega)] | unfold ax_ldI | unfold ax_woI | unfold ax_rxI | unfold ax_frI0 | unfold ax_frI1 | unfold ax_frI2 | rw [hI_ _ (by omega)] | rw [hN_ (by omega)])) (hgc g (by omega)).2 (by omega)) mlX10_137 rfl rfl (by have h_ := hC.state.1; omega) (show ax_K G (a + 1) = 8 + 7 from (hC.state.2 0 _ rfl).1) ⟨by show d - 1 + 1 ≤ d; omega, by show 40 * (d - 1 + 1) ≤ 40 * d; omega⟩ ⟨Nat.le_refl _, Nat.le_refl _⟩ rfl (Nat.le_of_ble_eq_true rfl) (dk ddX10_span 45 rfl) ?_
  rintro v_ G_ I_ L_ ⟨rfl, rfl, rfl, rfl⟩
  refine x_aload_n C (dk ddX10_span 46 rfl) rfl ?_
  refine x_getr C flX10_10 rfl (by have h_ := hC.1; omega) hC.fld.1 (show ax_R G a 0 = some (a + 1) from hC.fld.2.2 (0, 1) (by decide)) (dk ddX10_span 47 rfl) ?_
  refine x_iload_n C (dk ddX10_span 48 rfl) rfl ?_
  refine x_aload_n C (dk ddX10_span 49 rfl) rfl ?_
  refine x_getr C flX10_73 rfl (by have h_ := hC.1; omega) hC.fld.1 (show ax_R G a 11 = some (a + 606) from hC.fld.2.2 (11, 606) (by decide)) (dk ddX10_span 50 rfl) ?_
  refine x_callV C (ci := 7) (As := [.int (nI g), .ref (a + 606)]) (k_X7_fill l D T o (d - 1) G (ax_u I (a + 597) 2 (nI (gn g))) (ax_nth I (a + 1) (a + 597) g (gn g) (gc g) L) (a + 1) g (a + 606) (gn g) (gc g) hC.state hC.wider (by omega) (by omega) (by repeat (first | exact ax_u_at _ _ _ _ | exact (hgn g (by omega)).1 | rw [ax_u_ne (by omega)] | rw [ax_u_nj (by decide)] | rw [ax_sc_ne (by omega)] | rw [ax_rem_ne (by omega) (by omega)] | unfold ax_ldI | unfold ax_woI | unfold ax_rxI | unfold ax_frI0 | unfold ax_frI1 | unfold ax_frI2 | rw [hI_ _ (by omega)] | rw [hN_ (by omega)])) (hgn g (by omega)).2 (by repeat (first | exact ax_u_at _ _ _ _ | exact (hgc g (by omega)).1 | rw [ax_u_ne (by omega)] | rw [ax_u_nj (by decide)] | rw [ax_sc_ne (by omega)] | rw [ax_rem_ne (by omega) (by omega)] | unfold ax_ldI | unfold ax_woI | unfold ax_rxI | unfold ax_frI0 | unfold ax_frI1 | unfold ax_frI2 | rw [hI_ _ (by omega)] | rw [hN_ (by omega)])) (hgc g (by omega)).2 (by omega)) mlX10_137 rfl rfl (by have h_ := hC.state.1; omega) (show ax_K G (a + 1) = 8 + 7 from (hC.state.2 0 _ rfl).1) ⟨by show d - 1 + 1 ≤ d; omega, by show 40 * (d - 1 + 1) ≤ 40 * d; omega⟩ ⟨Nat.le_refl _, Nat.le_refl _⟩ rfl (Nat.le_of_ble_eq_true rfl) (dk ddX10_span 51 rfl) ?_
  rintro v_ G_ I_ L_ ⟨rfl, rfl, rfl, rfl⟩
  refine x_iconst C (v := nI 0) (dk ddX10_span 52 rfl) (by decide) ?_
  refine x_istore C (lv' := [(7, .int (nI 0)), (6, .int (nI 0)), (5, .ref (a + (623 + 2 * j))), (0, .ref a), (1, .int (nI g)), (2, .int (nI j)), (3, .int i), (4, .int (nI 0))]) (dk ddX10_span 53 rfl) (by decide) rfl ?_
  refine x_iload C (dk ddX10_span 54 rfl) rfl ?_
  refine x_iload C (dk ddX10_span 55 rfl) rfl ?_
  refine x_icmp_ge_n C (tgt := 163) (dk ddX10_span 56 rfl) (by decide) (by decide) (by decide) (fun _ => ?_) (fun h_ => absurd h_ (by decide))
  refine x_aload_n C (dk ddX10_span 85 rfl) rfl ?_
  refine x_getr C flX10_69 rfl (by have h_ := hC.1; omega) hC.fld.1 (show ax_R G a 10 = some (a + 597) from hC.fld.2.2 (10, 597) (by decide)) (dk ddX10_span 86 rfl) ?_
  refine x_aload_n C (dk ddX10_span 87 rfl) rfl ?_
  refine x_getr C flX10_73 rfl (by have h_ := hC.1; omega) hC.fld.1 (show ax_R G a 11 = some (a + 606) from hC.fld.2.2 (11, 606) (by decide)) (dk ddX10_span 88 rfl) ?_
  refine x_callV C (ci := 2) (As := [.ref (a + 606)]) (k_X2_indexWithinD l D T o (d - 1) G (ax_u (ax_u I (a + 597) 2 (nI (gn g))) (a + 606) 2 (nI (gn g))) (ax_nth (ax_u I (a + 597) 2 (nI (gn g))) (a + 1) (a + 606) g (gn g) (gc g) (ax_nth I (a + 1) (a + 597) g (gn g) (gc g) L)) (a + 597) (gn g) (a + 606) (gn g) hC.nothing (by repeat (first | exact ax_u_at _ _ _ _ | rw [ax_u_ne (by omega)] | rw [ax_u_nj (by decide)] | rw [ax_sc_ne (by omega)] | rw [ax_rem_ne (by omega) (by omega)] | unfold ax_ldI | unfold ax_woI | unfold ax_rxI | unfold ax_frI0 | unfold ax_frI1 | unfold ax_frI2 | rw [hI_ _ (by omega)] | rw [hN_ (by omega)])) (Nat.le_trans (hgn g (by omega)).2 (by decide)) hC.wider (by repeat (first | exact ax_u_at _ _ _ _ | rw [ax_u_ne (by omega)] | rw [ax_u_nj (by decide)] | rw [ax_sc_ne (by omega)] | rw [ax_rem_ne (by omega) (by omega)] | unfold ax_ldI | unfold ax_woI | unfold ax_rxI | unfold ax_frI0 | unfold ax_frI1 | unfold ax_frI2 | rw [hI_ _ (by omega)] | rw [hN_ (by omega)])) (Nat.le_trans (hgn g (by omega)).2 (by decide)) hne (by omega)) mlX10_201 rfl rfl (by have h_ := hC.nothing.1; omega) hC.nothing.2.1 ⟨by show d - 1 + 1 ≤ d; omega, by show 40 * (d - 1 + 1) ≤ 40 * d; omega⟩ ⟨Nat.le_refl _, Nat.le_refl _⟩ rfl (Nat.le_of_ble_eq_true rfl) (dk ddX10_span 89 rfl) ?_
  rintro v_ G_ I_ L_ ⟨rfl, rfl, rfl, rfl⟩
  refine x_l2i C (dk ddX10_span 90 rfl) ?_
  exact x_iret C rfl ⟨rfl, rfl, rfl, rfl⟩ rfl rfl (dk ddX10_span 91 rfl)
set_option maxRecDepth 20000 in
/-- mapIs, refused -/
theorem k_X10_mapIs_bad (l : Launch) (D : va_G) (T : Nat → ClassId) (o d : Nat) (G : ax_G) (I : ax_I) (L : ax_L) (a : Nat) (f u : Int32) (hC : ax_Cls G a) (hbad : (ax_in3 f.toInt64 0 7 && !decide (I (a + 1 + 4) f.toNatClampNeg = -1)) = false ∨ u < 0 ∨ nI 4 < u) (hd : 3 ≤ d) : ax_Con l D T o yX10_mapIs cX10_mapIs 5 (some .int) d 0 0 [.ref a, .int f, .int u] G I L (fun zz G' I' L' => zz = some (.int ((-1))) ∧ G = G' ∧ I = I' ∧ L = L') := by
  refine ax_enter (by decide +kernel) (Nat.le_of_ble_eq_true rfl) ?_
  intro p_ e_ s_ m_ args_ below_ meth_ c_ C _
  refine x_lvs (lv' := [(0, .ref a), (1, .int f), (2, .int u)]) rfl ?_
  refine x_aload_n C (dk ddX10_mapIs 0 rfl) rfl ?_
  refine x_iload_n C (dk ddX10_mapIs 1 rfl) rfl ?_
  refine x_callV C (ci := 10) (As := [.int f]) (k_X10_isMapI l D T o (d - 1) G I L a f hC (by omega)) mlX10_218 rfl rfl (by have h_ := hC.1; omega) hC.fld.1 ⟨by show d - 1 + 1 ≤ d; omega, by show 40 * (d - 1 + 1) ≤ 40 * d; omega⟩ ⟨Nat.le_refl _, Nat.le_refl _⟩ rfl (Nat.le_of_ble_eq_true rfl) (dk ddX10_mapIs 2 rfl) ?_
  rintro v_ G_ I_ L_ ⟨rfl, rfl, rfl, rfl⟩
  refine x_if_eq_b C (tgt := 17) (dk ddX10_mapIs 3 rfl) (by decide) (fun h5 => ?_) (fun h5 => ?_)
  · refine x_iconst C (v := (-1)) (dk ddX10_mapIs 9 rfl) (by decide) ?_
    exact x_iret C rfl ⟨rfl, rfl, rfl, rfl⟩ rfl rfl (dk ddX10_mapIs 10 rfl)
  · refine x_iload_n C (dk ddX10_mapIs 4 rfl) rfl ?_
    refine x_if_lt C (tgt := 17) (dk ddX10_mapIs 5 rfl) (by decide) (fun h9 => ?_) (fun h9 => ?_)
    · have h9c := Int32.not_le.mpr h9
      refine x_iconst C (v := (-1)) (dk ddX10_mapIs 9 rfl) (by decide) ?_
      exact x_iret C rfl ⟨rfl, rfl, rfl, rfl⟩ rfl rfl (dk ddX10_mapIs 10 rfl)
    · have h9c := Int32.not_lt.mp h9
      refine x_iload_n C (dk ddX10_mapIs 6 rfl) rfl ?_
      refine x_iconst C (v := nI 4) (dk ddX10_mapIs 7 rfl) (by decide) ?_
      refine x_icmp_le C (tgt := 19) (dk ddX10_mapIs 8 rfl) (by decide) (fun h14 => ?_) (fun h14 => ?_)
      · have h14c := Int32.not_lt.mpr h14
        exfalso
        rcases hbad with hq_ | hq_ | hq_ <;> first | exact absurd hq_ (by assumption) | (simp_all; done)
      · have h14c := Int32.not_le.mp h14
        refine x_iconst C (v := (-1)) (dk ddX10_mapIs 9 rfl) (by decide) ?_
        exact x_iret C rfl ⟨rfl, rfl, rfl, rfl⟩ rfl rfl (dk ddX10_mapIs 10 rfl)
set_option maxRecDepth 20000 in
/-- mapIs(j, 0) -/
theorem k_X10_mapIs_0 (l : Launch) (D : va_G) (T : Nat → ClassId) (o d : Nat) (G : ax_G) (I : ax_I) (L : ax_L) (a j g h : Nat) (gn gc : Nat → Nat) (hC : ax_Cls G a) (hgn : ∀ g, g < 6 → I (a + 1 + 1) g = nI (gn g) ∧ gn g ≤ 3) (hgc : ∀ g, g < 6 → I (a + 1 + 2) g = nI (gc g) ∧ gc g ≤ 4) (hf_j : j < 8) (hg_j : I (a + 1 + 4) j = nI g) (hl_j : g < 6) (hh_j : I (a + 1 + 5) j = nI h) (hm_j : h < 6) (hd : 7 ≤ d) : ax_Con l D T o yX10_mapIs cX10_mapIs 5 (some .int) d 0 0 [.ref a, .int (nI j), .int (nI 0)] G I L (fun zz G' I' L' => zz = some (.int (nI g)) ∧ G = G' ∧ I = I' ∧ L = L') := by
  refine ax_enter (by decide +kernel) (Nat.le_of_ble_eq_true rfl) ?_
  intro p_ e_ s_ m_ args_ below_ meth_ c_ C _
  refine x_lvs (lv' := [(0, .ref a), (1, .int (nI j)), (2, .int (nI 0))]) rfl ?_
  have hb_ := (hgn g hl_j).2
  have hb2_ := (hgn h hm_j).2
  refine x_aload_n C (dk ddX10_mapIs 0 rfl) rfl ?_
  refine x_iload_n C (dk ddX10_mapIs 1 rfl) rfl ?_
  refine x_callV C (ci := 10) (As := [.int (nI j)]) (k_X10_isMap l D T o (d - 1) G I L a j hC (by omega) (by omega)) mlX10_218 rfl rfl (by have h_ := hC.1; omega) hC.fld.1 ⟨by show d - 1 + 1 ≤ d; omega, by show 40 * (d - 1 + 1) ≤ 40 * d; omega⟩ ⟨Nat.le_refl _, Nat.le_refl _⟩ rfl (Nat.le_of_ble_eq_true rfl) (dk ddX10_mapIs 2 rfl) ?_
  rintro v_ G_ I_ L_ ⟨rfl, rfl, rfl, rfl⟩
  rw [show (!decide (I (a + 1 + 4) j = -1)) = true from by rw [show I (a + 1 + 4) j = nI g from (by repeat (first | exact ax_u_at _ _ _ _ | exact hg_j | rw [ax_u_ne (by omega)] | rw [ax_u_nj (by decide)] | rw [ax_sc_ne (by omega)] | rw [ax_rem_ne (by omega) (by omega)] | unfold ax_ldI | unfold ax_woI | unfold ax_rxI | unfold ax_frI0 | unfold ax_frI1 | unfold ax_frI2 | rw [hI_ _ (by omega)] | rw [hN_ (by omega)]))]; exact ax_hm hl_j]
  refine x_if_eq_b C (tgt := 17) (dk ddX10_mapIs 3 rfl) (by decide) (fun h_ => absurd h_ (by decide)) (fun _ => ?_)
  refine x_iload_n C (dk ddX10_mapIs 4 rfl) rfl ?_
  refine x_if_lt_n C (tgt := 17) (dk ddX10_mapIs 5 rfl) (by decide) (by decide) (fun h_ => absurd h_ (by decide)) (fun _ => ?_)
  refine x_iload_n C (dk ddX10_mapIs 6 rfl) rfl ?_
  refine x_iconst C (v := nI 4) (dk ddX10_mapIs 7 rfl) (by decide) ?_
  refine x_icmp_le_n C (tgt := 19) (dk ddX10_mapIs 8 rfl) (by decide) (by decide) (by decide) (fun _ => ?_) (fun h_ => absurd h_ (by decide))
  refine x_iload_n C (dk ddX10_mapIs 11 rfl) rfl ?_
  refine x_if_ne_n C (tgt := 33) (dk ddX10_mapIs 12 rfl) (by decide) (by decide) (fun h_ => absurd h_ (by decide)) (fun _ => ?_)
  refine x_aload_n C (dk ddX10_mapIs 13 rfl) rfl ?_
  refine x_getr C flX10_10 rfl (by have h_ := hC.1; omega) hC.fld.1 (show ax_R G a 0 = some (a + 1) from hC.fld.2.2 (0, 1) (by decide)) (dk ddX10_mapIs 14 rfl) ?_
  refine x_getr C flX10_221 rfl (by have h_ := hC.state.1; omega) (show ax_K G (a + 1) = 8 + 7 from (hC.state.2 0 _ rfl).1) (show ax_R G (a + 1) 3 = some (a + 1 + 4) from (hC.state.2 0 _ rfl).2.2 (3, 4) (by decide)) (dk ddX10_mapIs 15 rfl) ?_
  refine x_iload_n C (dk ddX10_mapIs 16 rfl) rfl ?_
  refine x_iald_n C (by have h_ := hC.state.1; omega) (show ax_K G (a + 1 + 4) = 0 from (hC.state.2 4 _ rfl).1) (show ax_N G (a + 1 + 4) = 8 from (hC.state.2 4 _ rfl).2.1) (by omega) (by decide) (dk ddX10_mapIs 17 rfl) ?_
  rw [show (I (a + 1 + 4) j) = nI g from (by repeat (first | exact ax_u_at _ _ _ _ | exact hg_j | rw [ax_u_ne (by omega)] | rw [ax_u_nj (by decide)] | rw [ax_sc_ne (by omega)] | rw [ax_rem_ne (by omega) (by omega)] | unfold ax_ldI | unfold ax_woI | unfold ax_rxI | unfold ax_frI0 | unfold ax_frI1 | unfold ax_frI2 | rw [hI_ _ (by omega)] | rw [hN_ (by omega)]))]
  exact x_iret C rfl ⟨rfl, rfl, rfl, rfl⟩ rfl rfl (dk ddX10_mapIs 18 rfl)
set_option maxRecDepth 20000 in
/-- mapIs(j, 1) -/
theorem k_X10_mapIs_1 (l : Launch) (D : va_G) (T : Nat → ClassId) (o d : Nat) (G : ax_G) (I : ax_I) (L : ax_L) (a j g h : Nat) (gn gc : Nat → Nat) (hC : ax_Cls G a) (hgn : ∀ g, g < 6 → I (a + 1 + 1) g = nI (gn g) ∧ gn g ≤ 3) (hgc : ∀ g, g < 6 → I (a + 1 + 2) g = nI (gc g) ∧ gc g ≤ 4) (hf_j : j < 8) (hg_j : I (a + 1 + 4) j = nI g) (hl_j : g < 6) (hh_j : I (a + 1 + 5) j = nI h) (hm_j : h < 6) (hd : 7 ≤ d) : ax_Con l D T o yX10_mapIs cX10_mapIs 5 (some .int) d 0 0 [.ref a, .int (nI j), .int (nI 1)] G I L (fun zz G' I' L' => zz = some (.int (nI h)) ∧ G = G' ∧ I = I' ∧ L = L') := by
  refine ax_enter (by decide +kernel) (Nat.le_of_ble_eq_true rfl) ?_
  intro p_ e_ s_ m_ args_ below_ meth_ c_ C _
  refine x_lvs (lv' := [(0, .ref a), (1, .int (nI j)), (2, .int (nI 1))]) rfl ?_
  have hb_ := (hgn g hl_j).2
  have hb2_ := (hgn h hm_j).2
  refine x_aload_n C (dk ddX10_mapIs 0 rfl) rfl ?_
  refine x_iload_n C (dk ddX10_mapIs 1 rfl) rfl ?_
  refine x_callV C (ci := 10) (As := [.int (nI j)]) (k_X10_isMap l D T o (d - 1) G I L a j hC (by omega) (by omega)) mlX10_218 rfl rfl (by have h_ := hC.1; omega) hC.fld.1 ⟨by show d - 1 + 1 ≤ d; omega, by show 40 * (d - 1 + 1) ≤ 40 * d; omega⟩ ⟨Nat.le_refl _, Nat.le_refl _⟩ rfl (Nat.le_of_ble_eq_true rfl) (dk ddX10_mapIs 2 rfl) ?_
  rintro v_ G_ I_ L_ ⟨rfl, rfl, rfl, rfl⟩
  rw [show (!decide (I (a + 1 + 4) j = -1)) = true from by rw [show I (a + 1 + 4) j = nI g from (by repeat (first | exact ax_u_at _ _ _ _ | exact hg_j | rw [ax_u_ne (by omega)] | rw [ax_u_nj (by decide)] | rw [ax_sc_ne (by omega)] | rw [ax_rem_ne (by omega) (by omega)] | unfold ax_ldI | unfold ax_woI | unfold ax_rxI | unfold ax_frI0 | unfold ax_frI1 | unfold ax_frI2 | rw [hI_ _ (by omega)] | rw [hN_ (by omega)]))]; exact ax_hm hl_j]
  refine x_if_eq_b C (tgt := 17) (dk ddX10_mapIs 3 rfl) (by decide) (fun h_ => absurd h_ (by decide)) (fun _ => ?_)
  refine x_iload_n C (dk ddX10_mapIs 4 rfl) rfl ?_
  refine x_if_lt_n C (tgt := 17) (dk ddX10_mapIs 5 rfl) (by decide) (by decide) (fun h_ => absurd h_ (by decide)) (fun _ => ?_)
  refine x_iload_n C (dk ddX10_mapIs 6 rfl) rfl ?_
  refine x_iconst C (v := nI 4) (dk ddX10_mapIs 7 rfl) (by decide) ?_
  refine x_icmp_le_n C (tgt := 19) (dk ddX10_mapIs 8 rfl) (by decide) (by decide) (by decide) (fun _ => ?_) (fun h_ => absurd h_ (by decide))
  refine x_iload_n C (dk ddX10_mapIs 11 rfl) rfl ?_
  refine x_if_ne_n C (tgt := 33) (dk ddX10_mapIs 12 rfl) (by decide) (by decide) (fun _ => ?_) (fun h_ => absurd h_ (by decide))
  refine x_iload_n C (dk ddX10_mapIs 19 rfl) rfl ?_
  refine x_iconst C (v := nI 1) (dk ddX10_mapIs 20 rfl) (by decide) ?_
  refine x_icmp_ne_n C (tgt := 48) (dk ddX10_mapIs 21 rfl) (by decide) (by decide) (by decide) (fun h_ => absurd h_ (by decide)) (fun _ => ?_)
  refine x_aload_n C (dk ddX10_mapIs 22 rfl) rfl ?_
  refine x_getr C flX10_10 rfl (by have h_ := hC.1; omega) hC.fld.1 (show ax_R G a 0 = some (a + 1) from hC.fld.2.2 (0, 1) (by decide)) (dk ddX10_mapIs 23 rfl) ?_
  refine x_getr C flX10_224 rfl (by have h_ := hC.state.1; omega) (show ax_K G (a + 1) = 8 + 7 from (hC.state.2 0 _ rfl).1) (show ax_R G (a + 1) 4 = some (a + 1 + 5) from (hC.state.2 0 _ rfl).2.2 (4, 5) (by decide)) (dk ddX10_mapIs 24 rfl) ?_
  refine x_iload_n C (dk ddX10_mapIs 25 rfl) rfl ?_
  refine x_iald_n C (by have h_ := hC.state.1; omega) (show ax_K G (a + 1 + 5) = 0 from (hC.state.2 5 _ rfl).1) (show ax_N G (a + 1 + 5) = 8 from (hC.state.2 5 _ rfl).2.1) (by omega) (by decide) (dk ddX10_mapIs 26 rfl) ?_
  rw [show (I (a + 1 + 5) j) = nI h from (by repeat (first | exact ax_u_at _ _ _ _ | exact hh_j | rw [ax_u_ne (by omega)] | rw [ax_u_nj (by decide)] | rw [ax_sc_ne (by omega)] | rw [ax_rem_ne (by omega) (by omega)] | unfold ax_ldI | unfold ax_woI | unfold ax_rxI | unfold ax_frI0 | unfold ax_frI1 | unfold ax_frI2 | rw [hI_ _ (by omega)] | rw [hN_ (by omega)]))]
  exact x_iret C rfl ⟨rfl, rfl, rfl, rfl⟩ rfl rfl (dk ddX10_mapIs 27 rfl)
set_option maxRecDepth 20000 in
/-- mapIs(j, 2) -/
theorem k_X10_mapIs_2 (l : Launch) (D : va_G) (T : Nat → ClassId) (o d : Nat) (G : ax_G) (I : ax_I) (L : ax_L) (a j g h : Nat) (gn gc : Nat → Nat) (hC : ax_Cls G a) (hgn : ∀ g, g < 6 → I (a + 1 + 1) g = nI (gn g) ∧ gn g ≤ 3) (hgc : ∀ g, g < 6 → I (a + 1 + 2) g = nI (gc g) ∧ gc g ≤ 4) (hf_j : j < 8) (hg_j : I (a + 1 + 4) j = nI g) (hl_j : g < 6) (hh_j : I (a + 1 + 5) j = nI h) (hm_j : h < 6) (hd : 7 ≤ d) : ax_Con l D T o yX10_mapIs cX10_mapIs 5 (some .int) d 0 0 [.ref a, .int (nI j), .int (nI 2)] G I L (fun zz G' I' L' => zz = some (.int (if (ax_ldv I L (a + 483) (a + 1) j g h (gn g) (gc g) (gn h) (gc h)) = true then nI 1 else nI 0)) ∧ G = G' ∧ (ax_ldI I (a + 483) (gn g) (gn h)) = I' ∧ (ax_ldL I L (a + 483) (a + 1) j g h (gn g) (gc g) (gn h) (gc h)) = L') := by
  refine ax_enter (by decide +kernel) (Nat.le_of_ble_eq_true rfl) ?_
  intro p_ e_ s_ m_ args_ below_ meth_ c_ C _
  refine x_lvs (lv' := [(0, .ref a), (1, .int (nI j)), (2, .int (nI 2))]) rfl ?_
  have hb_ := (hgn g hl_j).2
  have hb2_ := (hgn h hm_j).2
  refine x_aload_n C (dk ddX10_mapIs 0 rfl) rfl ?_
  refine x_iload_n C (dk ddX10_mapIs 1 rfl) rfl ?_
  refine x_callV C (ci := 10) (As := [.int (nI j)]) (k_X10_isMap l D T o (d - 1) G I L a j hC (by omega) (by omega)) mlX10_218 rfl rfl (by have h_ := hC.1; omega) hC.fld.1 ⟨by show d - 1 + 1 ≤ d; omega, by show 40 * (d - 1 + 1) ≤ 40 * d; omega⟩ ⟨Nat.le_refl _, Nat.le_refl _⟩ rfl (Nat.le_of_ble_eq_true rfl) (dk ddX10_mapIs 2 rfl) ?_
  rintro v_ G_ I_ L_ ⟨rfl, rfl, rfl, rfl⟩
  rw [show (!decide (I (a + 1 + 4) j = -1)) = true from by rw [show I (a + 1 + 4) j = nI g from (by repeat (first | exact ax_u_at _ _ _ _ | exact hg_j | rw [ax_u_ne (by omega)] | rw [ax_u_nj (by decide)] | rw [ax_sc_ne (by omega)] | rw [ax_rem_ne (by omega) (by omega)] | unfold ax_ldI | unfold ax_woI | unfold ax_rxI | unfold ax_frI0 | unfold ax_frI1 | unfold ax_frI2 | rw [hI_ _ (by omega)] | rw [hN_ (by omega)]))]; exact ax_hm hl_j]
  refine x_if_eq_b C (tgt := 17) (dk ddX10_mapIs 3 rfl) (by decide) (fun h_ => absurd h_ (by decide)) (fun _ => ?_)
  refine x_iload_n C (dk ddX10_mapIs 4 rfl) rfl ?_
  refine x_if_lt_n C (tgt := 17) (dk ddX10_mapIs 5 rfl) (by decide) (by decide) (fun h_ => absurd h_ (by decide)) (fun _ => ?_)
  refine x_iload_n C (dk ddX10_mapIs 6 rfl) rfl ?_
  refine x_iconst C (v := nI 4) (dk ddX10_mapIs 7 rfl) (by decide) ?_
  refine x_icmp_le_n C (tgt := 19) (dk ddX10_mapIs 8 rfl) (by decide) (by decide) (by decide) (fun _ => ?_) (fun h_ => absurd h_ (by decide))
  refine x_iload_n C (dk ddX10_mapIs 11 rfl) rfl ?_
  refine x_if_ne_n C (tgt := 33) (dk ddX10_mapIs 12 rfl) (by decide) (by decide) (fun _ => ?_) (fun h_ => absurd h_ (by decide))
  refine x_iload_n C (dk ddX10_mapIs 19 rfl) rfl ?_
  refine x_iconst C (v := nI 1) (dk ddX10_mapIs 20 rfl) (by decide) ?_
  refine x_icmp_ne_n C (tgt := 48) (dk ddX10_mapIs 21 rfl) (by decide) (by decide) (by decide) (fun _ => ?_) (fun h_ => absurd h_ (by decide))
  refine x_aload_n C (dk ddX10_mapIs 28 rfl) rfl ?_
  refine x_getr C flX10_59 rfl (by have h_ := hC.1; omega) hC.fld.1 (show ax_R G a 8 = some (a + 483) from hC.fld.2.2 (8, 483) (by decide)) (dk ddX10_mapIs 29 rfl) ?_
  refine x_aload_n C (dk ddX10_mapIs 30 rfl) rfl ?_
  refine x_getr C flX10_10 rfl (by have h_ := hC.1; omega) hC.fld.1 (show ax_R G a 0 = some (a + 1) from hC.fld.2.2 (0, 1) (by decide)) (dk ddX10_mapIs 31 rfl) ?_
  refine x_iload_n C (dk ddX10_mapIs 32 rfl) rfl ?_
  refine x_callV C (ci := 3) (As := [.ref (a + 1), .int (nI j)]) (k_X3_load l D T o (d - 1) G I L (a + 483) (a + 1) j g h (gn g) (gc g) (gn h) (gc h) hC.work hC.state (by omega) hf_j (by repeat (first | exact ax_u_at _ _ _ _ | exact hg_j | rw [ax_u_ne (by omega)] | rw [ax_u_nj (by decide)] | rw [ax_sc_ne (by omega)] | rw [ax_rem_ne (by omega) (by omega)] | unfold ax_ldI | unfold ax_woI | unfold ax_rxI | unfold ax_frI0 | unfold ax_frI1 | unfold ax_frI2 | rw [hI_ _ (by omega)] | rw [hN_ (by omega)])) hl_j (by repeat (first | exact ax_u_at _ _ _ _ | exact hh_j | rw [ax_u_ne (by omega)] | rw [ax_u_nj (by decide)] | rw [ax_sc_ne (by omega)] | rw [ax_rem_ne (by omega) (by omega)] | unfold ax_ldI | unfold ax_woI | unfold ax_rxI | unfold ax_frI0 | unfold ax_frI1 | unfold ax_frI2 | rw [hI_ _ (by omega)] | rw [hN_ (by omega)])) hm_j (by repeat (first | exact ax_u_at _ _ _ _ | exact (hgn g hl_j).1 | rw [ax_u_ne (by omega)] | rw [ax_u_nj (by decide)] | rw [ax_sc_ne (by omega)] | rw [ax_rem_ne (by omega) (by omega)] | unfold ax_ldI | unfold ax_woI | unfold ax_rxI | unfold ax_frI0 | unfold ax_frI1 | unfold ax_frI2 | rw [hI_ _ (by omega)] | rw [hN_ (by omega)])) (hgn g hl_j).2 (by repeat (first | exact ax_u_at _ _ _ _ | exact (hgc g hl_j).1 | rw [ax_u_ne (by omega)] | rw [ax_u_nj (by decide)] | rw [ax_sc_ne (by omega)] | rw [ax_rem_ne (by omega) (by omega)] | unfold ax_ldI | unfold ax_woI | unfold ax_rxI | unfold ax_frI0 | unfold ax_frI1 | unfold ax_frI2 | rw [hI_ _ (by omega)] | rw [hN_ (by omega)])) (hgc g hl_j).2 (by repeat (first | exact ax_u_at _ _ _ _ | exact (hgn h hm_j).1 | rw [ax_u_ne (by omega)] | rw [ax_u_nj (by decide)] | rw [ax_sc_ne (by omega)] | rw [ax_rem_ne (by omega) (by omega)] | unfold ax_ldI | unfold ax_woI | unfold ax_rxI | unfold ax_frI0 | unfold ax_frI1 | unfold ax_frI2 | rw [hI_ _ (by omega)] | rw [hN_ (by omega)])) (hgn h hm_j).2 (by repeat (first | exact ax_u_at _ _ _ _ | exact (hgc h hm_j).1 | rw [ax_u_ne (by omega)] | rw [ax_u_nj (by decide)] | rw [ax_sc_ne (by omega)] | rw [ax_rem_ne (by omega) (by omega)] | unfold ax_ldI | unfold ax_woI | unfold ax_rxI | unfold ax_frI0 | unfold ax_frI1 | unfold ax_frI2 | rw [hI_ _ (by omega)] | rw [hN_ (by omega)])) (hgc h hm_j).2 (by omega)) mlX10_227 rfl rfl (by have h_ := hC.work.1; omega) hC.work.fld.1 ⟨by show d - 1 + 1 ≤ d; omega, by show 40 * (d - 1 + 1) ≤ 40 * d; omega⟩ ⟨Nat.le_refl _, Nat.le_refl _⟩ rfl (Nat.le_of_ble_eq_true rfl) (dk ddX10_mapIs 33 rfl) ?_
  rintro v_ G_ I_ L_ ⟨rfl, rfl, rfl, rfl⟩
  refine x_istore_n C (lv' := [(3, .int (ax_b (ax_ldv I L (a + 483) (a + 1) j g h (gn g) (gc g) (gn h) (gc h)))), (0, .ref a), (1, .int (nI j)), (2, .int (nI 2))]) (dk ddX10_mapIs 34 rfl) (by decide) rfl ?_
  refine x_iload_n C (dk ddX10_mapIs 35 rfl) rfl ?_
  refine x_iconst C (v := nI 2) (dk ddX10_mapIs 36 rfl) (by decide) ?_
  refine x_icmp_ne_n C (tgt := 76) (dk ddX10_mapIs 37 rfl) (by decide) (by decide) (by decide) (fun h_ => absurd h_ (by decide)) (fun _ => ?_)
  refine x_iload_n C (dk ddX10_mapIs 38 rfl) rfl ?_
  refine x_if_eq_b C (tgt := 74) (dk ddX10_mapIs 39 rfl) (by decide) (fun h67 => ?_) (fun h67 => ?_)
  · refine x_iconst C (v := nI 0) (dk ddX10_mapIs 42 rfl) (by decide) ?_
    exact x_iret C rfl ⟨(by rw [if_neg (Bool.eq_false_iff.mp h67)] <;> rfl), rfl, rfl, rfl⟩ rfl rfl (dk ddX10_mapIs 43 rfl)
  · refine x_iconst C (v := nI 1) (dk ddX10_mapIs 40 rfl) (by decide) ?_
    refine x_goto C (tgt := 75) (dk ddX10_mapIs 41 rfl) (by decide) ?_
    exact x_iret C rfl ⟨(by rw [if_pos h67] <;> rfl), rfl, rfl, rfl⟩ rfl rfl (dk ddX10_mapIs 43 rfl)
set_option maxRecDepth 20000 in
/-- mapIs(j, 3), not well -/
theorem k_X10_mapIs_3_no (l : Launch) (D : va_G) (T : Nat → ClassId) (o d : Nat) (G : ax_G) (I : ax_I) (L : ax_L) (a j g h : Nat) (gn gc : Nat → Nat) (hC : ax_Cls G a) (hgn : ∀ g, g < 6 → I (a + 1 + 1) g = nI (gn g) ∧ gn g ≤ 3) (hgc : ∀ g, g < 6 → I (a + 1 + 2) g = nI (gc g) ∧ gc g ≤ 4) (hf_j : j < 8) (hg_j : I (a + 1 + 4) j = nI g) (hl_j : g < 6) (hh_j : I (a + 1 + 5) j = nI h) (hm_j : h < 6) (hw : ax_ldv I L (a + 483) (a + 1) j g h (gn g) (gc g) (gn h) (gc h) = false) (hd : 7 ≤ d) : ax_Con l D T o yX10_mapIs cX10_mapIs 5 (some .int) d 0 0 [.ref a, .int (nI j), .int (nI 3)] G I L (fun zz G' I' L' => zz = some (.int ((-4))) ∧ G = G' ∧ (ax_ldI I (a + 483) (gn g) (gn h)) = I' ∧ (ax_ldL I L (a + 483) (a + 1) j g h (gn g) (gc g) (gn h) (gc h)) = L') := by
  refine ax_enter (by decide +kernel) (Nat.le_of_ble_eq_true rfl) ?_
  intro p_ e_ s_ m_ args_ below_ meth_ c_ C _
  refine x_lvs (lv' := [(0, .ref a), (1, .int (nI j)), (2, .int (nI 3))]) rfl ?_
  have hb_ := (hgn g hl_j).2
  have hb2_ := (hgn h hm_j).2
  refine x_aload_n C (dk ddX10_mapIs 0 rfl) rfl ?_
  refine x_iload_n C (dk ddX10_mapIs 1 rfl) rfl ?_
  refine x_callV C (ci := 10) (As := [.int (nI j)]) (k_X10_isMap l D T o (d - 1) G I L a j hC (by omega) (by omega)) mlX10_218 rfl rfl (by have h_ := hC.1; omega) hC.fld.1 ⟨by show d - 1 + 1 ≤ d; omega, by show 40 * (d - 1 + 1) ≤ 40 * d; omega⟩ ⟨Nat.le_refl _, Nat.le_refl _⟩ rfl (Nat.le_of_ble_eq_true rfl) (dk ddX10_mapIs 2 rfl) ?_
  rintro v_ G_ I_ L_ ⟨rfl, rfl, rfl, rfl⟩
  rw [show (!decide (I (a + 1 + 4) j = -1)) = true from by rw [show I (a + 1 + 4) j = nI g from (by repeat (first | exact ax_u_at _ _ _ _ | exact hg_j | rw [ax_u_ne (by omega)] | rw [ax_u_nj (by decide)] | rw [ax_sc_ne (by omega)] | rw [ax_rem_ne (by omega) (by omega)] | unfold ax_ldI | unfold ax_woI | unfold ax_rxI | unfold ax_frI0 | unfold ax_frI1 | unfold ax_frI2 | rw [hI_ _ (by omega)] | rw [hN_ (by omega)]))]; exact ax_hm hl_j]
  refine x_if_eq_b C (tgt := 17) (dk ddX10_mapIs 3 rfl) (by decide) (fun h_ => absurd h_ (by decide)) (fun _ => ?_)
  refine x_iload_n C (dk ddX10_mapIs 4 rfl) rfl ?_
  refine x_if_lt_n C (tgt := 17) (dk ddX10_mapIs 5 rfl) (by decide) (by decide) (fun h_ => absurd h_ (by decide)) (fun _ => ?_)
  refine x_iload_n C (dk ddX10_mapIs 6 rfl) rfl ?_
  refine x_iconst C (v := nI 4) (dk ddX10_mapIs 7 rfl) (by decide) ?_
  refine x_icmp_le_n C (tgt := 19) (dk ddX10_mapIs 8 rfl) (by decide) (by decide) (by decide) (fun _ => ?_) (fun h_ => absurd h_ (by decide))
  refine x_iload_n C (dk ddX10_mapIs 11 rfl) rfl ?_
  refine x_if_ne_n C (tgt := 33) (dk ddX10_mapIs 12 rfl) (by decide) (by decide) (fun _ => ?_) (fun h_ => absurd h_ (by decide))
  refine x_iload_n C (dk ddX10_mapIs 19 rfl) rfl ?_
  refine x_iconst C (v := nI 1) (dk ddX10_mapIs 20 rfl) (by decide) ?_
  refine x_icmp_ne_n C (tgt := 48) (dk ddX10_mapIs 21 rfl) (by decide) (by decide) (by decide) (fun _ => ?_) (fun h_ => absurd h_ (by decide))
  refine x_aload_n C (dk ddX10_mapIs 28 rfl) rfl ?_
  refine x_getr C flX10_59 rfl (by have h_ := hC.1; omega) hC.fld.1 (show ax_R G a 8 = some (a + 483) from hC.fld.2.2 (8, 483) (by decide)) (dk ddX10_mapIs 29 rfl) ?_
  refine x_aload_n C (dk ddX10_mapIs 30 rfl) rfl ?_
  refine x_getr C flX10_10 rfl (by have h_ := hC.1; omega) hC.fld.1 (show ax_R G a 0 = some (a + 1) from hC.fld.2.2 (0, 1) (by decide)) (dk ddX10_mapIs 31 rfl) ?_
  refine x_iload_n C (dk ddX10_mapIs 32 rfl) rfl ?_
  refine x_callV C (ci := 3) (As := [.ref (a + 1), .int (nI j)]) (k_X3_load l D T o (d - 1) G I L (a + 483) (a + 1) j g h (gn g) (gc g) (gn h) (gc h) hC.work hC.state (by omega) hf_j (by repeat (first | exact ax_u_at _ _ _ _ | exact hg_j | rw [ax_u_ne (by omega)] | rw [ax_u_nj (by decide)] | rw [ax_sc_ne (by omega)] | rw [ax_rem_ne (by omega) (by omega)] | unfold ax_ldI | unfold ax_woI | unfold ax_rxI | unfold ax_frI0 | unfold ax_frI1 | unfold ax_frI2 | rw [hI_ _ (by omega)] | rw [hN_ (by omega)])) hl_j (by repeat (first | exact ax_u_at _ _ _ _ | exact hh_j | rw [ax_u_ne (by omega)] | rw [ax_u_nj (by decide)] | rw [ax_sc_ne (by omega)] | rw [ax_rem_ne (by omega) (by omega)] | unfold ax_ldI | unfold ax_woI | unfold ax_rxI | unfold ax_frI0 | unfold ax_frI1 | unfold ax_frI2 | rw [hI_ _ (by omega)] | rw [hN_ (by omega)])) hm_j (by repeat (first | exact ax_u_at _ _ _ _ | exact (hgn g hl_j).1 | rw [ax_u_ne (by omega)] | rw [ax_u_nj (by decide)] | rw [ax_sc_ne (by omega)] | rw [ax_rem_ne (by omega) (by omega)] | unfold ax_ldI | unfold ax_woI | unfold ax_rxI | unfold ax_frI0 | unfold ax_frI1 | unfold ax_frI2 | rw [hI_ _ (by omega)] | rw [hN_ (by omega)])) (hgn g hl_j).2 (by repeat (first | exact ax_u_at _ _ _ _ | exact (hgc g hl_j).1 | rw [ax_u_ne (by omega)] | rw [ax_u_nj (by decide)] | rw [ax_sc_ne (by omega)] | rw [ax_rem_ne (by omega) (by omega)] | unfold ax_ldI | unfold ax_woI | unfold ax_rxI | unfold ax_frI0 | unfold ax_frI1 | unfold ax_frI2 | rw [hI_ _ (by omega)] | rw [hN_ (by omega)])) (hgc g hl_j).2 (by repeat (first | exact ax_u_at _ _ _ _ | exact (hgn h hm_j).1 | rw [ax_u_ne (by omega)] | rw [ax_u_nj (by decide)] | rw [ax_sc_ne (by omega)] | rw [ax_rem_ne (by omega) (by omega)] | unfold ax_ldI | unfold ax_woI | unfold ax_rxI | unfold ax_frI0 | unfold ax_frI1 | unfold ax_frI2 | rw [hI_ _ (by omega)] | rw [hN_ (by omega)])) (hgn h hm_j).2 (by repeat (first | exact ax_u_at _ _ _ _ | exact (hgc h hm_j).1 | rw [ax_u_ne (by omega)] | rw [ax_u_nj (by decide)] | rw [ax_sc_ne (by omega)] | rw [ax_rem_ne (by omega) (by omega)] | unfold ax_ldI | unfold ax_woI | unfold ax_rxI | unfold ax_frI0 | unfold ax_frI1 | unfold ax_frI2 | rw [hI_ _ (by omega)] | rw [hN_ (by omega)])) (hgc h hm_j).2 (by omega)) mlX10_227 rfl rfl (by have h_ := hC.work.1; omega) hC.work.fld.1 ⟨by show d - 1 + 1 ≤ d; omega, by show 40 * (d - 1 + 1) ≤ 40 * d; omega⟩ ⟨Nat.le_refl _, Nat.le_refl _⟩ rfl (Nat.le_of_ble_eq_true rfl) (dk ddX10_mapIs 33 rfl) ?_
  rintro v_ G_ I_ L_ ⟨rfl, rfl, rfl, rfl⟩
  rw [show (ax_ldv I L (a + 483) (a + 1) j g h (gn g) (gc g) (gn h) (gc h)) = false from hw]
  refine x_istore_n C (lv' := [(3, .int (ax_b false)), (0, .ref a), (1, .int (nI j)), (2, .int (nI 3))]) (dk ddX10_mapIs 34 rfl) (by decide) rfl ?_
  refine x_iload_n C (dk ddX10_mapIs 35 rfl) rfl ?_
  refine x_iconst C (v := nI 2) (dk ddX10_mapIs 36 rfl) (by decide) ?_
  refine x_icmp_ne_n C (tgt := 76) (dk ddX10_mapIs 37 rfl) (by decide) (by decide) (by decide) (fun _ => ?_) (fun h_ => absurd h_ (by decide))
  refine x_iload_n C (dk ddX10_mapIs 44 rfl) rfl ?_
  refine x_if_ne_b C (tgt := 83) (dk ddX10_mapIs 45 rfl) (by decide) (fun h_ => absurd h_ (by decide)) (fun _ => ?_)
  refine x_bipush C (v := (-4)) (dk ddX10_mapIs 46 rfl) (by decide) ?_
  exact x_iret C rfl ⟨rfl, rfl, rfl, rfl⟩ rfl rfl (dk ddX10_mapIs 47 rfl)
def ax_miI3 (I : ax_I) (a : Nat) (g : Nat) (h : Nat) (gn : Nat → Nat) : ax_I := ax_woI (ax_ldI I (a + 483) (gn g) (gn h)) (a + 483) (gn g) (gn h)
def ax_miL3 (I : ax_I) (L : ax_L) (a : Nat) (j : Nat) (g : Nat) (h : Nat) (gn : Nat → Nat) (gc : Nat → Nat) : ax_L := ax_woL (ax_ldI I (a + 483) (gn g) (gn h)) (ax_ldL I L (a + 483) (a + 1) j g h (gn g) (gc g) (gn h) (gc h)) (a + 483) (a + 1) j (gn g) (gn h)
def ax_miv3 (I : ax_I) (L : ax_L) (a : Nat) (j : Nat) (g : Nat) (h : Nat) (gn : Nat → Nat) (gc : Nat → Nat) : Int32 := if (ax_oto (ax_woL (ax_ldI I (a + 483) (gn g) (gn h)) (ax_ldL I L (a + 483) (a + 1) j g h (gn g) (gc g) (gn h) (gc h)) (a + 483) (a + 1) j (gn g) (gn h)) (a + 483) (gn g) (gn g)) = true then nI 1 else nI 0
set_option maxRecDepth 20000 in
/-- mapIs(j, 3) -/
theorem k_X10_mapIs_3 (l : Launch) (D : va_G) (T : Nat → ClassId) (o d : Nat) (G : ax_G) (I : ax_I) (L : ax_L) (a j g h : Nat) (gn gc : Nat → Nat) (hC : ax_Cls G a) (hgn : ∀ g, g < 6 → I (a + 1 + 1) g = nI (gn g) ∧ gn g ≤ 3) (hgc : ∀ g, g < 6 → I (a + 1 + 2) g = nI (gc g) ∧ gc g ≤ 4) (hf_j : j < 8) (hg_j : I (a + 1 + 4) j = nI g) (hl_j : g < 6) (hh_j : I (a + 1 + 5) j = nI h) (hm_j : h < 6) (hw : ax_ldv I L (a + 483) (a + 1) j g h (gn g) (gc g) (gn h) (gc h) = true) (hd : 7 ≤ d) : ax_Con l D T o yX10_mapIs cX10_mapIs 5 (some .int) d 0 0 [.ref a, .int (nI j), .int (nI 3)] G I L (fun zz G' I' L' => zz = some (.int (ax_miv3 I L a j g h gn gc)) ∧ G = G' ∧ (ax_miI3 I a g h gn) = I' ∧ (ax_miL3 I L a j g h gn gc) = L') := by
  refine ax_enter (by decide +kernel) (Nat.le_of_ble_eq_true rfl) ?_
  intro p_ e_ s_ m_ args_ below_ meth_ c_ C _
  refine x_lvs (lv' := [(0, .ref a), (1, .int (nI j)), (2, .int (nI 3))]) rfl ?_
  have hb_ := (hgn g hl_j).2
  have hb2_ := (hgn h hm_j).2
  refine x_aload_n C (dk ddX10_mapIs 0 rfl) rfl ?_
  refine x_iload_n C (dk ddX10_mapIs 1 rfl) rfl ?_
  refine x_callV C (ci := 10) (As := [.int (nI j)]) (k_X10_isMap l D T o (d - 1) G I L a j hC (by omega) (by omega)) mlX10_218 rfl rfl (by have h_ := hC.1; omega) hC.fld.1 ⟨by show d - 1 + 1 ≤ d; omega, by show 40 * (d - 1 + 1) ≤ 40 * d; omega⟩ ⟨Nat.le_refl _, Nat.le_refl _⟩ rfl (Nat.le_of_ble_eq_true rfl) (dk ddX10_mapIs 2 rfl) ?_
  rintro v_ G_ I_ L_ ⟨rfl, rfl, rfl, rfl⟩
  rw [show (!decide (I (a + 1 + 4) j = -1)) = true from by rw [show I (a + 1 + 4) j = nI g from (by repeat (first | exact ax_u_at _ _ _ _ | exact hg_j | rw [ax_u_ne (by omega)] | rw [ax_u_nj (by decide)] | rw [ax_sc_ne (by omega)] | rw [ax_rem_ne (by omega) (by omega)] | unfold ax_ldI | unfold ax_woI | unfold ax_rxI | unfold ax_frI0 | unfold ax_frI1 | unfold ax_frI2 | rw [hI_ _ (by omega)] | rw [hN_ (by omega)]))]; exact ax_hm hl_j]
  refine x_if_eq_b C (tgt := 17) (dk ddX10_mapIs 3 rfl) (by decide) (fun h_ => absurd h_ (by decide)) (fun _ => ?_)
  refine x_iload_n C (dk ddX10_mapIs 4 rfl) rfl ?_
  refine x_if_lt_n C (tgt := 17) (dk ddX10_mapIs 5 rfl) (by decide) (by decide) (fun h_ => absurd h_ (by decide)) (fun _ => ?_)
  refine x_iload_n C (dk ddX10_mapIs 6 rfl) rfl ?_
  refine x_iconst C (v := nI 4) (dk ddX10_mapIs 7 rfl) (by decide) ?_
  refine x_icmp_le_n C (tgt := 19) (dk ddX10_mapIs 8 rfl) (by decide) (by decide) (by decide) (fun _ => ?_) (fun h_ => absurd h_ (by decide))
  refine x_iload_n C (dk ddX10_mapIs 11 rfl) rfl ?_
  refine x_if_ne_n C (tgt := 33) (dk ddX10_mapIs 12 rfl) (by decide) (by decide) (fun _ => ?_) (fun h_ => absurd h_ (by decide))
  refine x_iload_n C (dk ddX10_mapIs 19 rfl) rfl ?_
  refine x_iconst C (v := nI 1) (dk ddX10_mapIs 20 rfl) (by decide) ?_
  refine x_icmp_ne_n C (tgt := 48) (dk ddX10_mapIs 21 rfl) (by decide) (by decide) (by decide) (fun _ => ?_) (fun h_ => absurd h_ (by decide))
  refine x_aload_n C (dk ddX10_mapIs 28 rfl) rfl ?_
  refine x_getr C flX10_59 rfl (by have h_ := hC.1; omega) hC.fld.1 (show ax_R G a 8 = some (a + 483) from hC.fld.2.2 (8, 483) (by decide)) (dk ddX10_mapIs 29 rfl) ?_
  refine x_aload_n C (dk ddX10_mapIs 30 rfl) rfl ?_
  refine x_getr C flX10_10 rfl (by have h_ := hC.1; omega) hC.fld.1 (show ax_R G a 0 = some (a + 1) from hC.fld.2.2 (0, 1) (by decide)) (dk ddX10_mapIs 31 rfl) ?_
  refine x_iload_n C (dk ddX10_mapIs 32 rfl) rfl ?_
  refine x_callV C (ci := 3) (As := [.ref (a + 1), .int (nI j)]) (k_X3_load l D T o (d - 1) G I L (a + 483) (a + 1) j g h (gn g) (gc g) (gn h) (gc h) hC.work hC.state (by omega) hf_j (by repeat (first | exact ax_u_at _ _ _ _ | exact hg_j | rw [ax_u_ne (by omega)] | rw [ax_u_nj (by decide)] | rw [ax_sc_ne (by omega)] | rw [ax_rem_ne (by omega) (by omega)] | unfold ax_ldI | unfold ax_woI | unfold ax_rxI | unfold ax_frI0 | unfold ax_frI1 | unfold ax_frI2 | rw [hI_ _ (by omega)] | rw [hN_ (by omega)])) hl_j (by repeat (first | exact ax_u_at _ _ _ _ | exact hh_j | rw [ax_u_ne (by omega)] | rw [ax_u_nj (by decide)] | rw [ax_sc_ne (by omega)] | rw [ax_rem_ne (by omega) (by omega)] | unfold ax_ldI | unfold ax_woI | unfold ax_rxI | unfold ax_frI0 | unfold ax_frI1 | unfold ax_frI2 | rw [hI_ _ (by omega)] | rw [hN_ (by omega)])) hm_j (by repeat (first | exact ax_u_at _ _ _ _ | exact (hgn g hl_j).1 | rw [ax_u_ne (by omega)] | rw [ax_u_nj (by decide)] | rw [ax_sc_ne (by omega)] | rw [ax_rem_ne (by omega) (by omega)] | unfold ax_ldI | unfold ax_woI | unfold ax_rxI | unfold ax_frI0 | unfold ax_frI1 | unfold ax_frI2 | rw [hI_ _ (by omega)] | rw [hN_ (by omega)])) (hgn g hl_j).2 (by repeat (first | exact ax_u_at _ _ _ _ | exact (hgc g hl_j).1 | rw [ax_u_ne (by omega)] | rw [ax_u_nj (by decide)] | rw [ax_sc_ne (by omega)] | rw [ax_rem_ne (by omega) (by omega)] | unfold ax_ldI | unfold ax_woI | unfold ax_rxI | unfold ax_frI0 | unfold ax_frI1 | unfold ax_frI2 | rw [hI_ _ (by omega)] | rw [hN_ (by omega)])) (hgc g hl_j).2 (by repeat (first | exact ax_u_at _ _ _ _ | exact (hgn h hm_j).1 | rw [ax_u_ne (by omega)] | rw [ax_u_nj (by decide)] | rw [ax_sc_ne (by omega)] | rw [ax_rem_ne (by omega) (by omega)] | unfold ax_ldI | unfold ax_woI | unfold ax_rxI | unfold ax_frI0 | unfold ax_frI1 | unfold ax_frI2 | rw [hI_ _ (by omega)] | rw [hN_ (by omega)])) (hgn h hm_j).2 (by repeat (first | exact ax_u_at _ _ _ _ | exact (hgc h hm_j).1 | rw [ax_u_ne (by omega)] | rw [ax_u_nj (by decide)] | rw [ax_sc_ne (by omega)] | rw [ax_rem_ne (by omega) (by omega)] | unfold ax_ldI | unfold ax_woI | unfold ax_rxI | unfold ax_frI0 | unfold ax_frI1 | unfold ax_frI2 | rw [hI_ _ (by omega)] | rw [hN_ (by omega)])) (hgc h hm_j).2 (by omega)) mlX10_227 rfl rfl (by have h_ := hC.work.1; omega) hC.work.fld.1 ⟨by show d - 1 + 1 ≤ d; omega, by show 40 * (d - 1 + 1) ≤ 40 * d; omega⟩ ⟨Nat.le_refl _, Nat.le_refl _⟩ rfl (Nat.le_of_ble_eq_true rfl) (dk ddX10_mapIs 33 rfl) ?_
  rintro v_ G_ I_ L_ ⟨rfl, rfl, rfl, rfl⟩
  rw [show (ax_ldv I L (a + 483) (a + 1) j g h (gn g) (gc g) (gn h) (gc h)) = true from hw]
  refine x_istore_n C (lv' := [(3, .int (ax_b true)), (0, .ref a), (1, .int (nI j)), (2, .int (nI 3))]) (dk ddX10_mapIs 34 rfl) (by decide) rfl ?_
  refine x_iload_n C (dk ddX10_mapIs 35 rfl) rfl ?_
  refine x_iconst C (v := nI 2) (dk ddX10_mapIs 36 rfl) (by decide) ?_
  refine x_icmp_ne_n C (tgt := 76) (dk ddX10_mapIs 37 rfl) (by decide) (by decide) (by decide) (fun _ => ?_) (fun h_ => absurd h_ (by decide))
  refine x_iload_n C (dk ddX10_mapIs 44 rfl) rfl ?_
  refine x_if_ne_b C (tgt := 83) (dk ddX10_mapIs 45 rfl) (by decide) (fun _ => ?_) (fun h_ => absurd h_ (by decide))
  refine x_aload_n C (dk ddX10_mapIs 48 rfl) rfl ?_
  refine x_getr C flX10_59 rfl (by have h_ := hC.1; omega) hC.fld.1 (show ax_R G a 8 = some (a + 483) from hC.fld.2.2 (8, 483) (by decide)) (dk ddX10_mapIs 49 rfl) ?_
  refine x_aload_n C (dk ddX10_mapIs 50 rfl) rfl ?_
  refine x_getr C flX10_10 rfl (by have h_ := hC.1; omega) hC.fld.1 (show ax_R G a 0 = some (a + 1) from hC.fld.2.2 (0, 1) (by decide)) (dk ddX10_mapIs 51 rfl) ?_
  refine x_iload_n C (dk ddX10_mapIs 52 rfl) rfl ?_
  refine x_callV C (ci := 3) (As := [.ref (a + 1), .int (nI j)]) (k_X3_workOut l D T o (d - 1) G (ax_ldI I (a + 483) (gn g) (gn h)) (ax_ldL I L (a + 483) (a + 1) j g h (gn g) (gc g) (gn h) (gc h)) (a + 483) (a + 1) j (gn g) (gn h) hC.work hC.state (by omega) hf_j (by repeat (first | exact ax_u_at _ _ _ _ | rw [ax_u_ne (by omega)] | rw [ax_u_nj (by decide)] | rw [ax_sc_ne (by omega)] | rw [ax_rem_ne (by omega) (by omega)] | unfold ax_ldI | unfold ax_woI | unfold ax_rxI | unfold ax_frI0 | unfold ax_frI1 | unfold ax_frI2 | rw [hI_ _ (by omega)] | rw [hN_ (by omega)])) (hgn g hl_j).2 (by repeat (first | exact ax_u_at _ _ _ _ | rw [ax_u_ne (by omega)] | rw [ax_u_nj (by decide)] | rw [ax_sc_ne (by omega)] | rw [ax_rem_ne (by omega) (by omega)] | unfold ax_ldI | unfold ax_woI | unfold ax_rxI | unfold ax_frI0 | unfold ax_frI1 | unfold ax_frI2 | rw [hI_ _ (by omega)] | rw [hN_ (by omega)])) (hgn h hm_j).2 (by omega)) mlX10_231 rfl rfl (by have h_ := hC.work.1; omega) hC.work.fld.1 ⟨by show d - 1 + 1 ≤ d; omega, by show 40 * (d - 1 + 1) ≤ 40 * d; omega⟩ ⟨Nat.le_refl _, Nat.le_refl _⟩ rfl (Nat.le_of_ble_eq_true rfl) (dk ddX10_mapIs 53 rfl) ?_
  rintro v_ G_ I_ L_ ⟨rfl, rfl, rfl, rfl⟩
  refine x_iload_n C (dk ddX10_mapIs 54 rfl) rfl ?_
  refine x_iconst C (v := nI 3) (dk ddX10_mapIs 55 rfl) (by decide) ?_
  refine x_icmp_ne_n C (tgt := 110) (dk ddX10_mapIs 56 rfl) (by decide) (by decide) (by decide) (fun h_ => absurd h_ (by decide)) (fun _ => ?_)
  refine x_aload_n C (dk ddX10_mapIs 57 rfl) rfl ?_
  refine x_getr C flX10_59 rfl (by have h_ := hC.1; omega) hC.fld.1 (show ax_R G a 8 = some (a + 483) from hC.fld.2.2 (8, 483) (by decide)) (dk ddX10_mapIs 58 rfl) ?_
  refine x_callV C (ci := 3) (As := []) (k_X3_isOneToOne l D T o (d - 1) G (ax_woI (ax_ldI I (a + 483) (gn g) (gn h)) (a + 483) (gn g) (gn h)) (ax_woL (ax_ldI I (a + 483) (gn g) (gn h)) (ax_ldL I L (a + 483) (a + 1) j g h (gn g) (gc g) (gn h) (gc h)) (a + 483) (a + 1) j (gn g) (gn h)) (a + 483) (gn g) (gn g) hC.work (by repeat (first | exact ax_u_at _ _ _ _ | rw [ax_u_ne (by omega)] | rw [ax_u_nj (by decide)] | rw [ax_sc_ne (by omega)] | rw [ax_rem_ne (by omega) (by omega)] | unfold ax_ldI | unfold ax_woI | unfold ax_rxI | unfold ax_frI0 | unfold ax_frI1 | unfold ax_frI2 | rw [hI_ _ (by omega)] | rw [hN_ (by omega)])) (hgn g (by omega)).2 (by refine Eq.trans (b := nI ((gn h) + (gn g) - (gn h))) ?_ (congrArg nI (Nat.add_sub_cancel_left ..)); exact (by repeat (first | exact ax_u_at _ _ _ _ | rw [ax_u_ne (by omega)] | rw [ax_u_nj (by decide)] | rw [ax_sc_ne (by omega)] | rw [ax_rem_ne (by omega) (by omega)] | unfold ax_ldI | unfold ax_woI | unfold ax_rxI | unfold ax_frI0 | unfold ax_frI1 | unfold ax_frI2 | rw [hI_ _ (by omega)] | rw [hN_ (by omega)]))) (hgn g (by omega)).2 (by omega)) mlX10_235 rfl rfl (by have h_ := hC.work.1; omega) hC.work.fld.1 ⟨by show d - 1 + 1 ≤ d; omega, by show 40 * (d - 1 + 1) ≤ 40 * d; omega⟩ ⟨Nat.le_refl _, Nat.le_refl _⟩ rfl (Nat.le_of_ble_eq_true rfl) (dk ddX10_mapIs 59 rfl) ?_
  rintro v_ G_ I_ L_ ⟨rfl, rfl, rfl, rfl⟩
  refine x_goto C (tgt := 117) (dk ddX10_mapIs 60 rfl) (by decide) ?_
  refine x_istore C (lv' := [(4, .int (ax_b (ax_oto (ax_woL (ax_ldI I (a + 483) (gn g) (gn h)) (ax_ldL I L (a + 483) (a + 1) j g h (gn g) (gc g) (gn h) (gc h)) (a + 483) (a + 1) j (gn g) (gn h)) (a + 483) (gn g) (gn g)))), (3, .int (ax_b true)), (0, .ref a), (1, .int (nI j)), (2, .int (nI 3))]) (dk ddX10_mapIs 64 rfl) (by decide) rfl ?_
  refine x_iload C (dk ddX10_mapIs 65 rfl) rfl ?_
  refine x_if_eq_b C (tgt := 128) (dk ddX10_mapIs 66 rfl) (by decide) (fun h121 => ?_) (fun h121 => ?_)
  · refine x_iconst C (v := nI 0) (dk ddX10_mapIs 69 rfl) (by decide) ?_
    exact x_iret C rfl ⟨(by unfold ax_miv3; rw [if_neg (Bool.eq_false_iff.mp h121)] <;> rfl), rfl, rfl, rfl⟩ rfl rfl (dk ddX10_mapIs 70 rfl)
  · refine x_iconst C (v := nI 1) (dk ddX10_mapIs 67 rfl) (by decide) ?_
    refine x_goto C (tgt := 129) (dk ddX10_mapIs 68 rfl) (by decide) ?_
    exact x_iret C rfl ⟨(by unfold ax_miv3; rw [if_pos h121] <;> rfl), rfl, rfl, rfl⟩ rfl rfl (dk ddX10_mapIs 70 rfl)
set_option maxRecDepth 20000 in
/-- mapIs(j, 4), not well -/
theorem k_X10_mapIs_4_no (l : Launch) (D : va_G) (T : Nat → ClassId) (o d : Nat) (G : ax_G) (I : ax_I) (L : ax_L) (a j g h : Nat) (gn gc : Nat → Nat) (hC : ax_Cls G a) (hgn : ∀ g, g < 6 → I (a + 1 + 1) g = nI (gn g) ∧ gn g ≤ 3) (hgc : ∀ g, g < 6 → I (a + 1 + 2) g = nI (gc g) ∧ gc g ≤ 4) (hf_j : j < 8) (hg_j : I (a + 1 + 4) j = nI g) (hl_j : g < 6) (hh_j : I (a + 1 + 5) j = nI h) (hm_j : h < 6) (hw : ax_ldv I L (a + 483) (a + 1) j g h (gn g) (gc g) (gn h) (gc h) = false) (hd : 7 ≤ d) : ax_Con l D T o yX10_mapIs cX10_mapIs 5 (some .int) d 0 0 [.ref a, .int (nI j), .int (nI 4)] G I L (fun zz G' I' L' => zz = some (.int ((-4))) ∧ G = G' ∧ (ax_ldI I (a + 483) (gn g) (gn h)) = I' ∧ (ax_ldL I L (a + 483) (a + 1) j g h (gn g) (gc g) (gn h) (gc h)) = L') := by
  refine ax_enter (by decide +kernel) (Nat.le_of_ble_eq_true rfl) ?_
  intro p_ e_ s_ m_ args_ below_ meth_ c_ C _
  refine x_lvs (lv' := [(0, .ref a), (1, .int (nI j)), (2, .int (nI 4))]) rfl ?_
  have hb_ := (hgn g hl_j).2
  have hb2_ := (hgn h hm_j).2
  refine x_aload_n C (dk ddX10_mapIs 0 rfl) rfl ?_
  refine x_iload_n C (dk ddX10_mapIs 1 rfl) rfl ?_
  refine x_callV C (ci := 10) (As := [.int (nI j)]) (k_X10_isMap l D T o (d - 1) G I L a j hC (by omega) (by omega)) mlX10_218 rfl rfl (by have h_ := hC.1; omega) hC.fld.1 ⟨by show d - 1 + 1 ≤ d; omega, by show 40 * (d - 1 + 1) ≤ 40 * d; omega⟩ ⟨Nat.le_refl _, Nat.le_refl _⟩ rfl (Nat.le_of_ble_eq_true rfl) (dk ddX10_mapIs 2 rfl) ?_
  rintro v_ G_ I_ L_ ⟨rfl, rfl, rfl, rfl⟩
  rw [show (!decide (I (a + 1 + 4) j = -1)) = true from by rw [show I (a + 1 + 4) j = nI g from (by repeat (first | exact ax_u_at _ _ _ _ | exact hg_j | rw [ax_u_ne (by omega)] | rw [ax_u_nj (by decide)] | rw [ax_sc_ne (by omega)] | rw [ax_rem_ne (by omega) (by omega)] | unfold ax_ldI | unfold ax_woI | unfold ax_rxI | unfold ax_frI0 | unfold ax_frI1 | unfold ax_frI2 | rw [hI_ _ (by omega)] | rw [hN_ (by omega)]))]; exact ax_hm hl_j]
  refine x_if_eq_b C (tgt := 17) (dk ddX10_mapIs 3 rfl) (by decide) (fun h_ => absurd h_ (by decide)) (fun _ => ?_)
  refine x_iload_n C (dk ddX10_mapIs 4 rfl) rfl ?_
  refine x_if_lt_n C (tgt := 17) (dk ddX10_mapIs 5 rfl) (by decide) (by decide) (fun h_ => absurd h_ (by decide)) (fun _ => ?_)
  refine x_iload_n C (dk ddX10_mapIs 6 rfl) rfl ?_
  refine x_iconst C (v := nI 4) (dk ddX10_mapIs 7 rfl) (by decide) ?_
  refine x_icmp_le_n C (tgt := 19) (dk ddX10_mapIs 8 rfl) (by decide) (by decide) (by decide) (fun _ => ?_) (fun h_ => absurd h_ (by decide))
  refine x_iload_n C (dk ddX10_mapIs 11 rfl) rfl ?_
  refine x_if_ne_n C (tgt := 33) (dk ddX10_mapIs 12 rfl) (by decide) (by decide) (fun _ => ?_) (fun h_ => absurd h_ (by decide))
  refine x_iload_n C (dk ddX10_mapIs 19 rfl) rfl ?_
  refine x_iconst C (v := nI 1) (dk ddX10_mapIs 20 rfl) (by decide) ?_
  refine x_icmp_ne_n C (tgt := 48) (dk ddX10_mapIs 21 rfl) (by decide) (by decide) (by decide) (fun _ => ?_) (fun h_ => absurd h_ (by decide))
  refine x_aload_n C (dk ddX10_mapIs 28 rfl) rfl ?_
  refine x_getr C flX10_59 rfl (by have h_ := hC.1; omega) hC.fld.1 (show ax_R G a 8 = some (a + 483) from hC.fld.2.2 (8, 483) (by decide)) (dk ddX10_mapIs 29 rfl) ?_
  refine x_aload_n C (dk ddX10_mapIs 30 rfl) rfl ?_
  refine x_getr C flX10_10 rfl (by have h_ := hC.1; omega) hC.fld.1 (show ax_R G a 0 = some (a + 1) from hC.fld.2.2 (0, 1) (by decide)) (dk ddX10_mapIs 31 rfl) ?_
  refine x_iload_n C (dk ddX10_mapIs 32 rfl) rfl ?_
  refine x_callV C (ci := 3) (As := [.ref (a + 1), .int (nI j)]) (k_X3_load l D T o (d - 1) G I L (a + 483) (a + 1) j g h (gn g) (gc g) (gn h) (gc h) hC.work hC.state (by omega) hf_j (by repeat (first | exact ax_u_at _ _ _ _ | exact hg_j | rw [ax_u_ne (by omega)] | rw [ax_u_nj (by decide)] | rw [ax_sc_ne (by omega)] | rw [ax_rem_ne (by omega) (by omega)] | unfold ax_ldI | unfold ax_woI | unfold ax_rxI | unfold ax_frI0 | unfold ax_frI1 | unfold ax_frI2 | rw [hI_ _ (by omega)] | rw [hN_ (by omega)])) hl_j (by repeat (first | exact ax_u_at _ _ _ _ | exact hh_j | rw [ax_u_ne (by omega)] | rw [ax_u_nj (by decide)] | rw [ax_sc_ne (by omega)] | rw [ax_rem_ne (by omega) (by omega)] | unfold ax_ldI | unfold ax_woI | unfold ax_rxI | unfold ax_frI0 | unfold ax_frI1 | unfold ax_frI2 | rw [hI_ _ (by omega)] | rw [hN_ (by omega)])) hm_j (by repeat (first | exact ax_u_at _ _ _ _ | exact (hgn g hl_j).1 | rw [ax_u_ne (by omega)] | rw [ax_u_nj (by decide)] | rw [ax_sc_ne (by omega)] | rw [ax_rem_ne (by omega) (by omega)] | unfold ax_ldI | unfold ax_woI | unfold ax_rxI | unfold ax_frI0 | unfold ax_frI1 | unfold ax_frI2 | rw [hI_ _ (by omega)] | rw [hN_ (by omega)])) (hgn g hl_j).2 (by repeat (first | exact ax_u_at _ _ _ _ | exact (hgc g hl_j).1 | rw [ax_u_ne (by omega)] | rw [ax_u_nj (by decide)] | rw [ax_sc_ne (by omega)] | rw [ax_rem_ne (by omega) (by omega)] | unfold ax_ldI | unfold ax_woI | unfold ax_rxI | unfold ax_frI0 | unfold ax_frI1 | unfold ax_frI2 | rw [hI_ _ (by omega)] | rw [hN_ (by omega)])) (hgc g hl_j).2 (by repeat (first | exact ax_u_at _ _ _ _ | exact (hgn h hm_j).1 | rw [ax_u_ne (by omega)] | rw [ax_u_nj (by decide)] | rw [ax_sc_ne (by omega)] | rw [ax_rem_ne (by omega) (by omega)] | unfold ax_ldI | unfold ax_woI | unfold ax_rxI | unfold ax_frI0 | unfold ax_frI1 | unfold ax_frI2 | rw [hI_ _ (by omega)] | rw [hN_ (by omega)])) (hgn h hm_j).2 (by repeat (first | exact ax_u_at _ _ _ _ | exact (hgc h hm_j).1 | rw [ax_u_ne (by omega)] | rw [ax_u_nj (by decide)] | rw [ax_sc_ne (by omega)] | rw [ax_rem_ne (by omega) (by omega)] | unfold ax_ldI | unfold ax_woI | unfold ax_rxI | unfold ax_frI0 | unfold ax_frI1 | unfold ax_frI2 | rw [hI_ _ (by omega)] | rw [hN_ (by omega)])) (hgc h hm_j).2 (by omega)) mlX10_227 rfl rfl (by have h_ := hC.work.1; omega) hC.work.fld.1 ⟨by show d - 1 + 1 ≤ d; omega, by show 40 * (d - 1 + 1) ≤ 40 * d; omega⟩ ⟨Nat.le_refl _, Nat.le_refl _⟩ rfl (Nat.le_of_ble_eq_true rfl) (dk ddX10_mapIs 33 rfl) ?_
  rintro v_ G_ I_ L_ ⟨rfl, rfl, rfl, rfl⟩
  rw [show (ax_ldv I L (a + 483) (a + 1) j g h (gn g) (gc g) (gn h) (gc h)) = false from hw]
  refine x_istore_n C (lv' := [(3, .int (ax_b false)), (0, .ref a), (1, .int (nI j)), (2, .int (nI 4))]) (dk ddX10_mapIs 34 rfl) (by decide) rfl ?_
  refine x_iload_n C (dk ddX10_mapIs 35 rfl) rfl ?_
  refine x_iconst C (v := nI 2) (dk ddX10_mapIs 36 rfl) (by decide) ?_
  refine x_icmp_ne_n C (tgt := 76) (dk ddX10_mapIs 37 rfl) (by decide) (by decide) (by decide) (fun _ => ?_) (fun h_ => absurd h_ (by decide))
  refine x_iload_n C (dk ddX10_mapIs 44 rfl) rfl ?_
  refine x_if_ne_b C (tgt := 83) (dk ddX10_mapIs 45 rfl) (by decide) (fun h_ => absurd h_ (by decide)) (fun _ => ?_)
  refine x_bipush C (v := (-4)) (dk ddX10_mapIs 46 rfl) (by decide) ?_
  exact x_iret C rfl ⟨rfl, rfl, rfl, rfl⟩ rfl rfl (dk ddX10_mapIs 47 rfl)
def ax_miI4 (I : ax_I) (a : Nat) (g : Nat) (h : Nat) (gn : Nat → Nat) : ax_I := ax_woI (ax_ldI I (a + 483) (gn g) (gn h)) (a + 483) (gn g) (gn h)
def ax_miL4 (I : ax_I) (L : ax_L) (a : Nat) (j : Nat) (g : Nat) (h : Nat) (gn : Nat → Nat) (gc : Nat → Nat) : ax_L := ax_woL (ax_ldI I (a + 483) (gn g) (gn h)) (ax_ldL I L (a + 483) (a + 1) j g h (gn g) (gc g) (gn h) (gc h)) (a + 483) (a + 1) j (gn g) (gn h)
def ax_miv4 (I : ax_I) (L : ax_L) (a : Nat) (j : Nat) (g : Nat) (h : Nat) (gn : Nat → Nat) (gc : Nat → Nat) : Int32 := if (if (ax_ixp (a + 483 + 19) (ax_woL (ax_ldI I (a + 483) (gn g) (gn h)) (ax_ldL I L (a + 483) (a + 1) j g h (gn g) (gc g) (gn h) (gc h)) (a + 483) (a + 1) j (gn g) (gn h)) (gn h)) = 1 then true else false) = true then nI 1 else nI 0
set_option maxRecDepth 20000 in
/-- mapIs(j, 4) -/
theorem k_X10_mapIs_4 (l : Launch) (D : va_G) (T : Nat → ClassId) (o d : Nat) (G : ax_G) (I : ax_I) (L : ax_L) (a j g h : Nat) (gn gc : Nat → Nat) (hC : ax_Cls G a) (hgn : ∀ g, g < 6 → I (a + 1 + 1) g = nI (gn g) ∧ gn g ≤ 3) (hgc : ∀ g, g < 6 → I (a + 1 + 2) g = nI (gc g) ∧ gc g ≤ 4) (hf_j : j < 8) (hg_j : I (a + 1 + 4) j = nI g) (hl_j : g < 6) (hh_j : I (a + 1 + 5) j = nI h) (hm_j : h < 6) (hw : ax_ldv I L (a + 483) (a + 1) j g h (gn g) (gc g) (gn h) (gc h) = true) (hd : 7 ≤ d) : ax_Con l D T o yX10_mapIs cX10_mapIs 5 (some .int) d 0 0 [.ref a, .int (nI j), .int (nI 4)] G I L (fun zz G' I' L' => zz = some (.int (ax_miv4 I L a j g h gn gc)) ∧ G = G' ∧ (ax_miI4 I a g h gn) = I' ∧ (ax_miL4 I L a j g h gn gc) = L') := by
  refine ax_enter (by decide +kernel) (Nat.le_of_ble_eq_true rfl) ?_
  intro p_ e_ s_ m_ args_ below_ meth_ c_ C _
  refine x_lvs (lv' := [(0, .ref a), (1, .int (nI j)), (2, .int (nI 4))]) rfl ?_
  have hb_ := (hgn g hl_j).2
  have hb2_ := (hgn h hm_j).2
  refine x_aload_n C (dk ddX10_mapIs 0 rfl) rfl ?_
  refine x_iload_n C (dk ddX10_mapIs 1 rfl) rfl ?_
  refine x_callV C (ci := 10) (As := [.int (nI j)]) (k_X10_isMap l D T o (d - 1) G I L a j hC (by omega) (by omega)) mlX10_218 rfl rfl (by have h_ := hC.1; omega) hC.fld.1 ⟨by show d - 1 + 1 ≤ d; omega, by show 40 * (d - 1 + 1) ≤ 40 * d; omega⟩ ⟨Nat.le_refl _, Nat.le_refl _⟩ rfl (Nat.le_of_ble_eq_true rfl) (dk ddX10_mapIs 2 rfl) ?_
  rintro v_ G_ I_ L_ ⟨rfl, rfl, rfl, rfl⟩
  rw [show (!decide (I (a + 1 + 4) j = -1)) = true from by rw [show I (a + 1 + 4) j = nI g from (by repeat (first | exact ax_u_at _ _ _ _ | exact hg_j | rw [ax_u_ne (by omega)] | rw [ax_u_nj (by decide)] | rw [ax_sc_ne (by omega)] | rw [ax_rem_ne (by omega) (by omega)] | unfold ax_ldI | unfold ax_woI | unfold ax_rxI | unfold ax_frI0 | unfold ax_frI1 | unfold ax_frI2 | rw [hI_ _ (by omega)] | rw [hN_ (by omega)]))]; exact ax_hm hl_j]
  refine x_if_eq_b C (tgt := 17) (dk ddX10_mapIs 3 rfl) (by decide) (fun h_ => absurd h_ (by decide)) (fun _ => ?_)
  refine x_iload_n C (dk ddX10_mapIs 4 rfl) rfl ?_
  refine x_if_lt_n C (tgt := 17) (dk ddX10_mapIs 5 rfl) (by decide) (by decide) (fun h_ => absurd h_ (by decide)) (fun _ => ?_)
  refine x_iload_n C (dk ddX10_mapIs 6 rfl) rfl ?_
  refine x_iconst C (v := nI 4) (dk ddX10_mapIs 7 rfl) (by decide) ?_
  refine x_icmp_le_n C (tgt := 19) (dk ddX10_mapIs 8 rfl) (by decide) (by decide) (by decide) (fun _ => ?_) (fun h_ => absurd h_ (by decide))
  refine x_iload_n C (dk ddX10_mapIs 11 rfl) rfl ?_
  refine x_if_ne_n C (tgt := 33) (dk ddX10_mapIs 12 rfl) (by decide) (by decide) (fun _ => ?_) (fun h_ => absurd h_ (by decide))
  refine x_iload_n C (dk ddX10_mapIs 19 rfl) rfl ?_
  refine x_iconst C (v := nI 1) (dk ddX10_mapIs 20 rfl) (by decide) ?_
  refine x_icmp_ne_n C (tgt := 48) (dk ddX10_mapIs 21 rfl) (by decide) (by decide) (by decide) (fun _ => ?_) (fun h_ => absurd h_ (by decide))
  refine x_aload_n C (dk ddX10_mapIs 28 rfl) rfl ?_
  refine x_getr C flX10_59 rfl (by have h_ := hC.1; omega) hC.fld.1 (show ax_R G a 8 = some (a + 483) from hC.fld.2.2 (8, 483) (by decide)) (dk ddX10_mapIs 29 rfl) ?_
  refine x_aload_n C (dk ddX10_mapIs 30 rfl) rfl ?_
  refine x_getr C flX10_10 rfl (by have h_ := hC.1; omega) hC.fld.1 (show ax_R G a 0 = some (a + 1) from hC.fld.2.2 (0, 1) (by decide)) (dk ddX10_mapIs 31 rfl) ?_
  refine x_iload_n C (dk ddX10_mapIs 32 rfl) rfl ?_
  refine x_callV C (ci := 3) (As := [.ref (a + 1), .int (nI j)]) (k_X3_load l D T o (d - 1) G I L (a + 483) (a + 1) j g h (gn g) (gc g) (gn h) (gc h) hC.work hC.state (by omega) hf_j (by repeat (first | exact ax_u_at _ _ _ _ | exact hg_j | rw [ax_u_ne (by omega)] | rw [ax_u_nj (by decide)] | rw [ax_sc_ne (by omega)] | rw [ax_rem_ne (by omega) (by omega)] | unfold ax_ldI | unfold ax_woI | unfold ax_rxI | unfold ax_frI0 | unfold ax_frI1 | unfold ax_frI2 | rw [hI_ _ (by omega)] | rw [hN_ (by omega)])) hl_j (by repeat (first | exact ax_u_at _ _ _ _ | exact hh_j | rw [ax_u_ne (by omega)] | rw [ax_u_nj (by decide)] | rw [ax_sc_ne (by omega)] | rw [ax_rem_ne (by omega) (by omega)] | unfold ax_ldI | unfold ax_woI | unfold ax_rxI | unfold ax_frI0 | unfold ax_frI1 | unfold ax_frI2 | rw [hI_ _ (by omega)] | rw [hN_ (by omega)])) hm_j (by repeat (first | exact ax_u_at _ _ _ _ | exact (hgn g hl_j).1 | rw [ax_u_ne (by omega)] | rw [ax_u_nj (by decide)] | rw [ax_sc_ne (by omega)] | rw [ax_rem_ne (by omega) (by omega)] | unfold ax_ldI | unfold ax_woI | unfold ax_rxI | unfold ax_frI0 | unfold ax_frI1 | unfold ax_frI2 | rw [hI_ _ (by omega)] | rw [hN_ (by omega)])) (hgn g hl_j).2 (by repeat (first | exact ax_u_at _ _ _ _ | exact (hgc g hl_j).1 | rw [ax_u_ne (by omega)] | rw [ax_u_nj (by decide)] | rw [ax_sc_ne (by omega)] | rw [ax_rem_ne (by omega) (by omega)] | unfold ax_ldI | unfold ax_woI | unfold ax_rxI | unfold ax_frI0 | unfold ax_frI1 | unfold ax_frI2 | rw [hI_ _ (by omega)] | rw [hN_ (by omega)])) (hgc g hl_j).2 (by repeat (first | exact ax_u_at _ _ _ _ | exact (hgn h hm_j).1 | rw [ax_u_ne (by omega)] | rw [ax_u_nj (by decide)] | rw [ax_sc_ne (by omega)] | rw [ax_rem_ne (by omega) (by omega)] | unfold ax_ldI | unfold ax_woI | unfold ax_rxI | unfold ax_frI0 | unfold ax_frI1 | unfold ax_frI2 | rw [hI_ _ (by omega)] | rw [hN_ (by omega)])) (hgn h hm_j).2 (by repeat (first | exact ax_u_at _ _ _ _ | exact (hgc h hm_j).1 | rw [ax_u_ne (by omega)] | rw [ax_u_nj (by decide)] | rw [ax_sc_ne (by omega)] | rw [ax_rem_ne (by omega) (by omega)] | unfold ax_ldI | unfold ax_woI | unfold ax_rxI | unfold ax_frI0 | unfold ax_frI1 | unfold ax_frI2 | rw [hI_ _ (by omega)] | rw [hN_ (by omega)])) (hgc h hm_j).2 (by omega)) mlX10_227 rfl rfl (by have h_ := hC.work.1; omega) hC.work.fld.1 ⟨by show d - 1 + 1 ≤ d; omega, by show 40 * (d - 1 + 1) ≤ 40 * d; omega⟩ ⟨Nat.le_refl _, Nat.le_refl _⟩ rfl (Nat.le_of_ble_eq_true rfl) (dk ddX10_mapIs 33 rfl) ?_
  rintro v_ G_ I_ L_ ⟨rfl, rfl, rfl, rfl⟩
  rw [show (ax_ldv I L (a + 483) (a + 1) j g h (gn g) (gc g) (gn h) (gc h)) = true from hw]
  refine x_istore_n C (lv' := [(3, .int (ax_b true)), (0, .ref a), (1, .int (nI j)), (2, .int (nI 4))]) (dk ddX10_mapIs 34 rfl) (by decide) rfl ?_
  refine x_iload_n C (dk ddX10_mapIs 35 rfl) rfl ?_
  refine x_iconst C (v := nI 2) (dk ddX10_mapIs 36 rfl) (by decide) ?_
  refine x_icmp_ne_n C (tgt := 76) (dk ddX10_mapIs 37 rfl) (by decide) (by decide) (by decide) (fun _ => ?_) (fun h_ => absurd h_ (by decide))
  refine x_iload_n C (dk ddX10_mapIs 44 rfl) rfl ?_
  refine x_if_ne_b C (tgt := 83) (dk ddX10_mapIs 45 rfl) (by decide) (fun _ => ?_) (fun h_ => absurd h_ (by decide))
  refine x_aload_n C (dk ddX10_mapIs 48 rfl) rfl ?_
  refine x_getr C flX10_59 rfl (by have h_ := hC.1; omega) hC.fld.1 (show ax_R G a 8 = some (a + 483) from hC.fld.2.2 (8, 483) (by decide)) (dk ddX10_mapIs 49 rfl) ?_
  refine x_aload_n C (dk ddX10_mapIs 50 rfl) rfl ?_
  refine x_getr C flX10_10 rfl (by have h_ := hC.1; omega) hC.fld.1 (show ax_R G a 0 = some (a + 1) from hC.fld.2.2 (0, 1) (by decide)) (dk ddX10_mapIs 51 rfl) ?_
  refine x_iload_n C (dk ddX10_mapIs 52 rfl) rfl ?_
  refine x_callV C (ci := 3) (As := [.ref (a + 1), .int (nI j)]) (k_X3_workOut l D T o (d - 1) G (ax_ldI I (a + 483) (gn g) (gn h)) (ax_ldL I L (a + 483) (a + 1) j g h (gn g) (gc g) (gn h) (gc h)) (a + 483) (a + 1) j (gn g) (gn h) hC.work hC.state (by omega) hf_j (by repeat (first | exact ax_u_at _ _ _ _ | rw [ax_u_ne (by omega)] | rw [ax_u_nj (by decide)] | rw [ax_sc_ne (by omega)] | rw [ax_rem_ne (by omega) (by omega)] | unfold ax_ldI | unfold ax_woI | unfold ax_rxI | unfold ax_frI0 | unfold ax_frI1 | unfold ax_frI2 | rw [hI_ _ (by omega)] | rw [hN_ (by omega)])) (hgn g hl_j).2 (by repeat (first | exact ax_u_at _ _ _ _ | rw [ax_u_ne (by omega)] | rw [ax_u_nj (by decide)] | rw [ax_sc_ne (by omega)] | rw [ax_rem_ne (by omega) (by omega)] | unfold ax_ldI | unfold ax_woI | unfold ax_rxI | unfold ax_frI0 | unfold ax_frI1 | unfold ax_frI2 | rw [hI_ _ (by omega)] | rw [hN_ (by omega)])) (hgn h hm_j).2 (by omega)) mlX10_231 rfl rfl (by have h_ := hC.work.1; omega) hC.work.fld.1 ⟨by show d - 1 + 1 ≤ d; omega, by show 40 * (d - 1 + 1) ≤ 40 * d; omega⟩ ⟨Nat.le_refl _, Nat.le_refl _⟩ rfl (Nat.le_of_ble_eq_true rfl) (dk ddX10_mapIs 53 rfl) ?_
  rintro v_ G_ I_ L_ ⟨rfl, rfl, rfl, rfl⟩
  refine x_iload_n C (dk ddX10_mapIs 54 rfl) rfl ?_
  refine x_iconst C (v := nI 3) (dk ddX10_mapIs 55 rfl) (by decide) ?_
  refine x_icmp_ne_n C (tgt := 110) (dk ddX10_mapIs 56 rfl) (by decide) (by decide) (by decide) (fun _ => ?_) (fun h_ => absurd h_ (by decide))
  refine x_aload_n C (dk ddX10_mapIs 61 rfl) rfl ?_
  refine x_getr C flX10_59 rfl (by have h_ := hC.1; omega) hC.fld.1 (show ax_R G a 8 = some (a + 483) from hC.fld.2.2 (8, 483) (by decide)) (dk ddX10_mapIs 62 rfl) ?_
  refine x_callV C (ci := 3) (As := []) (k_X3_isOnto l D T o (d - 1) G (ax_woI (ax_ldI I (a + 483) (gn g) (gn h)) (a + 483) (gn g) (gn h)) (ax_woL (ax_ldI I (a + 483) (gn g) (gn h)) (ax_ldL I L (a + 483) (a + 1) j g h (gn g) (gc g) (gn h) (gc h)) (a + 483) (a + 1) j (gn g) (gn h)) (a + 483) (gn h) hC.work (by repeat (first | exact ax_u_at _ _ _ _ | rw [ax_u_ne (by omega)] | rw [ax_u_nj (by decide)] | rw [ax_sc_ne (by omega)] | rw [ax_rem_ne (by omega) (by omega)] | unfold ax_ldI | unfold ax_woI | unfold ax_rxI | unfold ax_frI0 | unfold ax_frI1 | unfold ax_frI2 | rw [hI_ _ (by omega)] | rw [hN_ (by omega)])) (hgn h (by omega)).2 (by omega)) mlX10_239 rfl rfl (by have h_ := hC.work.1; omega) hC.work.fld.1 ⟨by show d - 1 + 1 ≤ d; omega, by show 40 * (d - 1 + 1) ≤ 40 * d; omega⟩ ⟨Nat.le_refl _, Nat.le_refl _⟩ rfl (Nat.le_of_ble_eq_true rfl) (dk ddX10_mapIs 63 rfl) ?_
  rintro v_ G_ I_ L_ ⟨rfl, rfl, rfl, rfl⟩
  refine x_istore C (lv' := [(4, .int (ax_b (if (ax_ixp (a + 483 + 19) (ax_woL (ax_ldI I (a + 483) (gn g) (gn h)) (ax_ldL I L (a + 483) (a + 1) j g h (gn g) (gc g) (gn h) (gc h)) (a + 483) (a + 1) j (gn g) (gn h)) (gn h)) = 1 then true else false))), (3, .int (ax_b true)), (0, .ref a), (1, .int (nI j)), (2, .int (nI 4))]) (dk ddX10_mapIs 64 rfl) (by decide) rfl ?_
  refine x_iload C (dk ddX10_mapIs 65 rfl) rfl ?_
  refine x_if_eq_b C (tgt := 128) (dk ddX10_mapIs 66 rfl) (by decide) (fun h121 => ?_) (fun h121 => ?_)
  · refine x_iconst C (v := nI 0) (dk ddX10_mapIs 69 rfl) (by decide) ?_
    exact x_iret C rfl ⟨(by unfold ax_miv4; rw [if_neg (Bool.eq_false_iff.mp h121)] <;> rfl), rfl, rfl, rfl⟩ rfl rfl (dk ddX10_mapIs 70 rfl)
  · refine x_iconst C (v := nI 1) (dk ddX10_mapIs 67 rfl) (by decide) ?_
    refine x_goto C (tgt := 129) (dk ddX10_mapIs 68 rfl) (by decide) ?_
    exact x_iret C rfl ⟨(by unfold ax_miv4; rw [if_pos h121] <;> rfl), rfl, rfl, rfl⟩ rfl rfl (dk ddX10_mapIs 70 rfl)
set_option maxRecDepth 20000 in
/-- image of no map -/
theorem k_X10_image_bad (l : Launch) (D : va_G) (T : Nat → ClassId) (o d : Nat) (G : ax_G) (I : ax_I) (L : ax_L) (a : Nat) (f k : Int32) (x y z : Int32) (hC : ax_Cls G a) (hbad : (ax_in3 f.toInt64 0 7 && !decide (I (a + 1 + 4) f.toNatClampNeg = -1)) = false) (hd : 3 ≤ d) : ax_Con l D T o yX10_image cX10_image 6 (some .long) d 0 0 [.ref a, .int f, .int x, .int y, .int z, .int k] G I L (fun zz G' I' L' => zz = some (.long ((-4000000000000000000) + (-1).toInt64)) ∧ G = G' ∧ I = I' ∧ L = L') := by
  refine ax_enter (by decide +kernel) (Nat.le_of_ble_eq_true rfl) ?_
  intro p_ e_ s_ m_ args_ below_ meth_ c_ C _
  refine x_lvs (lv' := [(0, .ref a), (1, .int f), (2, .int x), (3, .int y), (4, .int z), (5, .int k)]) rfl ?_
  refine x_aload_n C (dk ddX10_image 0 rfl) rfl ?_
  refine x_iload_n C (dk ddX10_image 1 rfl) rfl ?_
  refine x_callV C (ci := 10) (As := [.int f]) (k_X10_isMapI l D T o (d - 1) G I L a f hC (by omega)) mlX10_218 rfl rfl (by have h_ := hC.1; omega) hC.fld.1 ⟨by show d - 1 + 1 ≤ d; omega, by show 40 * (d - 1 + 1) ≤ 40 * d; omega⟩ ⟨Nat.le_refl _, Nat.le_refl _⟩ rfl (Nat.le_of_ble_eq_true rfl) (dk ddX10_image 2 rfl) ?_
  rintro v_ G_ I_ L_ ⟨rfl, rfl, rfl, rfl⟩
  rw [show (ax_in3 f.toInt64 0 7 && !decide (I (a + 1 + 4) f.toNatClampNeg = -1)) = false from hbad]
  refine x_if_eq_b C (tgt := 36) (dk ddX10_image 3 rfl) (by decide) (fun _ => ?_) (fun h_ => absurd h_ (by decide))
  refine x_iconst C (v := (-1)) (dk ddX10_image 18 rfl) (by decide) ?_
  refine x_callS C (As := [.int (-1)]) (k_X10_refused l D T o (d - 1) G I L (-1)) mlX10_160 ⟨by show d - 1 + 1 ≤ d; omega, by show 40 * (d - 1 + 1) ≤ 40 * d; omega⟩ ⟨Nat.le_refl _, Nat.le_refl _⟩ rfl (Nat.le_of_ble_eq_true rfl) (dk ddX10_image 19 rfl) ?_
  rintro v_ G_ I_ L_ ⟨rfl, rfl, rfl, rfl⟩
  exact x_lret C rfl ⟨rfl, rfl, rfl, rfl⟩ rfl rfl (dk ddX10_image 20 rfl)
set_option maxRecDepth 20000 in
/-- image of no element -/
theorem k_X10_image_el (l : Launch) (D : va_G) (T : Nat → ClassId) (o d : Nat) (G : ax_G) (I : ax_I) (L : ax_L) (a j g h : Nat) (k : Int32) (x y z : Int32) (gn gc : Nat → Nat) (hC : ax_Cls G a) (hgn : ∀ g, g < 6 → I (a + 1 + 1) g = nI (gn g) ∧ gn g ≤ 3) (hgc : ∀ g, g < 6 → I (a + 1 + 2) g = nI (gc g) ∧ gc g ≤ 4) (hf_j : j < 8) (hg_j : I (a + 1 + 4) j = nI g) (hl_j : g < 6) (hh_j : I (a + 1 + 5) j = nI h) (hm_j : h < 6) (hbad : (ax_iw x.toInt64 (999 : Int32).toInt64 && ax_iw y.toInt64 (999 : Int32).toInt64 && ax_iw z.toInt64 (999 : Int32).toInt64) = false) (hd : 7 ≤ d) : ax_Con l D T o yX10_image cX10_image 6 (some .long) d 0 0 [.ref a, .int (nI j), .int x, .int y, .int z, .int k] G I L (fun zz G' I' L' => zz = some (.long ((-4000000000000000000) + (-1).toInt64)) ∧ G = G' ∧ I = I' ∧ L = L') := by
  refine ax_enter (by decide +kernel) (Nat.le_of_ble_eq_true rfl) ?_
  intro p_ e_ s_ m_ args_ below_ meth_ c_ C _
  refine x_lvs (lv' := [(0, .ref a), (1, .int (nI j)), (2, .int x), (3, .int y), (4, .int z), (5, .int k)]) rfl ?_
  refine x_aload_n C (dk ddX10_image 0 rfl) rfl ?_
  refine x_iload_n C (dk ddX10_image 1 rfl) rfl ?_
  refine x_callV C (ci := 10) (As := [.int (nI j)]) (k_X10_isMap l D T o (d - 1) G I L a j hC (by omega) (by omega)) mlX10_218 rfl rfl (by have h_ := hC.1; omega) hC.fld.1 ⟨by show d - 1 + 1 ≤ d; omega, by show 40 * (d - 1 + 1) ≤ 40 * d; omega⟩ ⟨Nat.le_refl _, Nat.le_refl _⟩ rfl (Nat.le_of_ble_eq_true rfl) (dk ddX10_image 2 rfl) ?_
  rintro v_ G_ I_ L_ ⟨rfl, rfl, rfl, rfl⟩
  rw [show (!decide (I (a + 1 + 4) j = -1)) = true from by rw [show I (a + 1 + 4) j = nI g from (by repeat (first | exact ax_u_at _ _ _ _ | exact hg_j | rw [ax_u_ne (by omega)] | rw [ax_u_nj (by decide)] | rw [ax_sc_ne (by omega)] | rw [ax_rem_ne (by omega) (by omega)] | unfold ax_ldI | unfold ax_woI | unfold ax_rxI | unfold ax_frI0 | unfold ax_frI1 | unfold ax_frI2 | rw [hI_ _ (by omega)] | rw [hN_ (by omega)]))]; exact ax_hm hl_j]
  refine x_if_eq_b C (tgt := 36) (dk ddX10_image 3 rfl) (by decide) (fun h_ => absurd h_ (by decide)) (fun _ => ?_)
  refine x_iload_n C (dk ddX10_image 4 rfl) rfl ?_
  refine x_iload_n C (dk ddX10_image 5 rfl) rfl ?_
  refine x_iload C (dk ddX10_image 6 rfl) rfl ?_
  refine x_callS C (As := [.int x, .int y, .int z]) (k_X10_isElement l D T o (d - 1) G I L x y z (by omega)) mlX10_156 ⟨by show d - 1 + 1 ≤ d; omega, by show 40 * (d - 1 + 1) ≤ 40 * d; omega⟩ ⟨Nat.le_refl _, Nat.le_refl _⟩ rfl (Nat.le_of_ble_eq_true rfl) (dk ddX10_image 7 rfl) ?_
  rintro v_ G_ I_ L_ ⟨rfl, rfl, rfl, rfl⟩
  rw [show (ax_iw x.toInt64 (999 : Int32).toInt64 && ax_iw y.toInt64 (999 : Int32).toInt64 && ax_iw z.toInt64 (999 : Int32).toInt64) = false from hbad]
  refine x_if_eq_b C (tgt := 36) (dk ddX10_image 8 rfl) (by decide) (fun _ => ?_) (fun h_ => absurd h_ (by decide))
  refine x_iconst C (v := (-1)) (dk ddX10_image 18 rfl) (by decide) ?_
  refine x_callS C (As := [.int (-1)]) (k_X10_refused l D T o (d - 1) G I L (-1)) mlX10_160 ⟨by show d - 1 + 1 ≤ d; omega, by show 40 * (d - 1 + 1) ≤ 40 * d; omega⟩ ⟨Nat.le_refl _, Nat.le_refl _⟩ rfl (Nat.le_of_ble_eq_true rfl) (dk ddX10_image 19 rfl) ?_
  rintro v_ G_ I_ L_ ⟨rfl, rfl, rfl, rfl⟩
  exact x_lret C rfl ⟨rfl, rfl, rfl, rfl⟩ rfl rfl (dk ddX10_image 20 rfl)
set_option maxRecDepth 20000 in
/-- image of no place -/
theorem k_X10_image_out (l : Launch) (D : va_G) (T : Nat → ClassId) (o d : Nat) (G : ax_G) (I : ax_I) (L : ax_L) (a j g h : Nat) (k : Int32) (x y z : Int32) (gn gc : Nat → Nat) (hC : ax_Cls G a) (hgn : ∀ g, g < 6 → I (a + 1 + 1) g = nI (gn g) ∧ gn g ≤ 3) (hgc : ∀ g, g < 6 → I (a + 1 + 2) g = nI (gc g) ∧ gc g ≤ 4) (hf_j : j < 8) (hg_j : I (a + 1 + 4) j = nI g) (hl_j : g < 6) (hh_j : I (a + 1 + 5) j = nI h) (hm_j : h < 6) (he : (ax_iw x.toInt64 (999 : Int32).toInt64 && ax_iw y.toInt64 (999 : Int32).toInt64 && ax_iw z.toInt64 (999 : Int32).toInt64) = true) (hbad : ax_rng k (nI (gn h)) = false) (hd : 7 ≤ d) : ax_Con l D T o yX10_image cX10_image 6 (some .long) d 0 0 [.ref a, .int (nI j), .int x, .int y, .int z, .int k] G I L (fun zz G' I' L' => zz = some (.long ((-4000000000000000000) + (-1).toInt64)) ∧ G = G' ∧ I = I' ∧ L = L') := by
  refine ax_enter (by decide +kernel) (Nat.le_of_ble_eq_true rfl) ?_
  intro p_ e_ s_ m_ args_ below_ meth_ c_ C _
  refine x_lvs (lv' := [(0, .ref a), (1, .int (nI j)), (2, .int x), (3, .int y), (4, .int z), (5, .int k)]) rfl ?_
  refine x_aload_n C (dk ddX10_image 0 rfl) rfl ?_
  refine x_iload_n C (dk ddX10_image 1 rfl) rfl ?_
  refine x_callV C (ci := 10) (As := [.int (nI j)]) (k_X10_isMap l D T o (d - 1) G I L a j hC (by omega) (by omega)) mlX10_218 rfl rfl (by have h_ := hC.1; omega) hC.fld.1 ⟨by show d - 1 + 1 ≤ d; omega, by show 40 * (d - 1 + 1) ≤ 40 * d; omega⟩ ⟨Nat.le_refl _, Nat.le_refl _⟩ rfl (Nat.le_of_ble_eq_true rfl) (dk ddX10_image 2 rfl) ?_
  rintro v_ G_ I_ L_ ⟨rfl, rfl, rfl, rfl⟩
  rw [show (!decide (I (a + 1 + 4) j = -1)) = true from by rw [show I (a + 1 + 4) j = nI g from (by repeat (first | exact ax_u_at _ _ _ _ | exact hg_j | rw [ax_u_ne (by omega)] | rw [ax_u_nj (by decide)] | rw [ax_sc_ne (by omega)] | rw [ax_rem_ne (by omega) (by omega)] | unfold ax_ldI | unfold ax_woI | unfold ax_rxI | unfold ax_frI0 | unfold ax_frI1 | unfold ax_frI2 | rw [hI_ _ (by omega)] | rw [hN_ (by omega)]))]; exact ax_hm hl_j]
  refine x_if_eq_b C (tgt := 36) (dk ddX10_image 3 rfl) (by decide) (fun h_ => absurd h_ (by decide)) (fun _ => ?_)
  refine x_iload_n C (dk ddX10_image 4 rfl) rfl ?_
  refine x_iload_n C (dk ddX10_image 5 rfl) rfl ?_
  refine x_iload C (dk ddX10_image 6 rfl) rfl ?_
  refine x_callS C (As := [.int x, .int y, .int z]) (k_X10_isElement l D T o (d - 1) G I L x y z (by omega)) mlX10_156 ⟨by show d - 1 + 1 ≤ d; omega, by show 40 * (d - 1 + 1) ≤ 40 * d; omega⟩ ⟨Nat.le_refl _, Nat.le_refl _⟩ rfl (Nat.le_of_ble_eq_true rfl) (dk ddX10_image 7 rfl) ?_
  rintro v_ G_ I_ L_ ⟨rfl, rfl, rfl, rfl⟩
  rw [show (ax_iw x.toInt64 (999 : Int32).toInt64 && ax_iw y.toInt64 (999 : Int32).toInt64 && ax_iw z.toInt64 (999 : Int32).toInt64) = true from he]
  refine x_if_eq_b C (tgt := 36) (dk ddX10_image 8 rfl) (by decide) (fun h_ => absurd h_ (by decide)) (fun _ => ?_)
  refine x_aload_n C (dk ddX10_image 9 rfl) rfl ?_
  refine x_aload_n C (dk ddX10_image 10 rfl) rfl ?_
  refine x_getr C flX10_10 rfl (by have h_ := hC.1; omega) hC.fld.1 (show ax_R G a 0 = some (a + 1) from hC.fld.2.2 (0, 1) (by decide)) (dk ddX10_image 11 rfl) ?_
  refine x_getr C flX10_224 rfl (by have h_ := hC.state.1; omega) (show ax_K G (a + 1) = 8 + 7 from (hC.state.2 0 _ rfl).1) (show ax_R G (a + 1) 4 = some (a + 1 + 5) from (hC.state.2 0 _ rfl).2.2 (4, 5) (by decide)) (dk ddX10_image 12 rfl) ?_
  refine x_iload_n C (dk ddX10_image 13 rfl) rfl ?_
  refine x_iald_n C (by have h_ := hC.state.1; omega) (show ax_K G (a + 1 + 5) = 0 from (hC.state.2 5 _ rfl).1) (show ax_N G (a + 1 + 5) = 8 from (hC.state.2 5 _ rfl).2.1) (by omega) (by decide) (dk ddX10_image 14 rfl) ?_
  rw [show (I (a + 1 + 5) j) = nI h from (by repeat (first | exact ax_u_at _ _ _ _ | exact hh_j | rw [ax_u_ne (by omega)] | rw [ax_u_nj (by decide)] | rw [ax_sc_ne (by omega)] | rw [ax_rem_ne (by omega) (by omega)] | unfold ax_ldI | unfold ax_woI | unfold ax_rxI | unfold ax_frI0 | unfold ax_frI1 | unfold ax_frI2 | rw [hI_ _ (by omega)] | rw [hN_ (by omega)]))]
  refine x_iload C (dk ddX10_image 15 rfl) rfl ?_
  refine x_callV C (ci := 10) (As := [.int (nI h), .int k]) (k_X10_isPlace l D T o (d - 1) G I L a h k hC (by omega) (by omega)) mlX10_145 rfl rfl (by have h_ := hC.1; omega) hC.fld.1 ⟨by show d - 1 + 1 ≤ d; omega, by show 40 * (d - 1 + 1) ≤ 40 * d; omega⟩ ⟨Nat.le_refl _, Nat.le_refl _⟩ rfl (Nat.le_of_ble_eq_true rfl) (dk ddX10_image 16 rfl) ?_
  rintro v_ G_ I_ L_ ⟨rfl, rfl, rfl, rfl⟩
  rw [show (ax_rng k (I (a + 1 + 1) h)) = false from by rw [show I (a + 1 + 1) h = nI (gn h) from (by repeat (first | exact ax_u_at _ _ _ _ | exact (hgn h (by omega)).1 | rw [ax_u_ne (by omega)] | rw [ax_u_nj (by decide)] | rw [ax_sc_ne (by omega)] | rw [ax_rem_ne (by omega) (by omega)] | unfold ax_ldI | unfold ax_woI | unfold ax_rxI | unfold ax_frI0 | unfold ax_frI1 | unfold ax_frI2 | rw [hI_ _ (by omega)] | rw [hN_ (by omega)]))]; exact hbad]
  refine x_if_ne_b C (tgt := 41) (dk ddX10_image 17 rfl) (by decide) (fun h_ => absurd h_ (by decide)) (fun _ => ?_)
  refine x_iconst C (v := (-1)) (dk ddX10_image 18 rfl) (by decide) ?_
  refine x_callS C (As := [.int (-1)]) (k_X10_refused l D T o (d - 1) G I L (-1)) mlX10_160 ⟨by show d - 1 + 1 ≤ d; omega, by show 40 * (d - 1 + 1) ≤ 40 * d; omega⟩ ⟨Nat.le_refl _, Nat.le_refl _⟩ rfl (Nat.le_of_ble_eq_true rfl) (dk ddX10_image 19 rfl) ?_
  rintro v_ G_ I_ L_ ⟨rfl, rfl, rfl, rfl⟩
  exact x_lret C rfl ⟨rfl, rfl, rfl, rfl⟩ rfl rfl (dk ddX10_image 20 rfl)
set_option maxRecDepth 20000 in
/-- image, not well -/
theorem k_X10_image_no (l : Launch) (D : va_G) (T : Nat → ClassId) (o d : Nat) (G : ax_G) (I : ax_I) (L : ax_L) (a j g h k : Nat) (x y z : Int32) (gn gc : Nat → Nat) (hC : ax_Cls G a) (hgn : ∀ g, g < 6 → I (a + 1 + 1) g = nI (gn g) ∧ gn g ≤ 3) (hgc : ∀ g, g < 6 → I (a + 1 + 2) g = nI (gc g) ∧ gc g ≤ 4) (hf_j : j < 8) (hg_j : I (a + 1 + 4) j = nI g) (hl_j : g < 6) (hh_j : I (a + 1 + 5) j = nI h) (hm_j : h < 6) (he : (ax_iw x.toInt64 (999 : Int32).toInt64 && ax_iw y.toInt64 (999 : Int32).toInt64 && ax_iw z.toInt64 (999 : Int32).toInt64) = true) (hk : k < gn h) (hw : ax_ldv I L (a + 483) (a + 1) j g h (gn g) (gc g) (gn h) (gc h) = false) (hd : 7 ≤ d) : ax_Con l D T o yX10_image cX10_image 6 (some .long) d 0 0 [.ref a, .int (nI j), .int x, .int y, .int z, .int (nI k)] G I L (fun zz G' I' L' => zz = some (.long ((-4000000000000000000) + (-4).toInt64)) ∧ G = G' ∧ (ax_ldI I (a + 483) (gn g) (gn h)) = I' ∧ (ax_ldL I L (a + 483) (a + 1) j g h (gn g) (gc g) (gn h) (gc h)) = L') := by
  refine ax_enter (by decide +kernel) (Nat.le_of_ble_eq_true rfl) ?_
  intro p_ e_ s_ m_ args_ below_ meth_ c_ C _
  refine x_lvs (lv' := [(0, .ref a), (1, .int (nI j)), (2, .int x), (3, .int y), (4, .int z), (5, .int (nI k))]) rfl ?_
  have hb_ := (hgn g hl_j).2
  have hb2_ := (hgn h hm_j).2
  refine x_aload_n C (dk ddX10_image 0 rfl) rfl ?_
  refine x_iload_n C (dk ddX10_image 1 rfl) rfl ?_
  refine x_callV C (ci := 10) (As := [.int (nI j)]) (k_X10_isMap l D T o (d - 1) G I L a j hC (by omega) (by omega)) mlX10_218 rfl rfl (by have h_ := hC.1; omega) hC.fld.1 ⟨by show d - 1 + 1 ≤ d; omega, by show 40 * (d - 1 + 1) ≤ 40 * d; omega⟩ ⟨Nat.le_refl _, Nat.le_refl _⟩ rfl (Nat.le_of_ble_eq_true rfl) (dk ddX10_image 2 rfl) ?_
  rintro v_ G_ I_ L_ ⟨rfl, rfl, rfl, rfl⟩
  rw [show (!decide (I (a + 1 + 4) j = -1)) = true from by rw [show I (a + 1 + 4) j = nI g from (by repeat (first | exact ax_u_at _ _ _ _ | exact hg_j | rw [ax_u_ne (by omega)] | rw [ax_u_nj (by decide)] | rw [ax_sc_ne (by omega)] | rw [ax_rem_ne (by omega) (by omega)] | unfold ax_ldI | unfold ax_woI | unfold ax_rxI | unfold ax_frI0 | unfold ax_frI1 | unfold ax_frI2 | rw [hI_ _ (by omega)] | rw [hN_ (by omega)]))]; exact ax_hm hl_j]
  refine x_if_eq_b C (tgt := 36) (dk ddX10_image 3 rfl) (by decide) (fun h_ => absurd h_ (by decide)) (fun _ => ?_)
  refine x_iload_n C (dk ddX10_image 4 rfl) rfl ?_
  refine x_iload_n C (dk ddX10_image 5 rfl) rfl ?_
  refine x_iload C (dk ddX10_image 6 rfl) rfl ?_
  refine x_callS C (As := [.int x, .int y, .int z]) (k_X10_isElement l D T o (d - 1) G I L x y z (by omega)) mlX10_156 ⟨by show d - 1 + 1 ≤ d; omega, by show 40 * (d - 1 + 1) ≤ 40 * d; omega⟩ ⟨Nat.le_refl _, Nat.le_refl _⟩ rfl (Nat.le_of_ble_eq_true rfl) (dk ddX10_image 7 rfl) ?_
  rintro v_ G_ I_ L_ ⟨rfl, rfl, rfl, rfl⟩
  rw [show (ax_iw x.toInt64 (999 : Int32).toInt64 && ax_iw y.toInt64 (999 : Int32).toInt64 && ax_iw z.toInt64 (999 : Int32).toInt64) = true from he]
  refine x_if_eq_b C (tgt := 36) (dk ddX10_image 8 rfl) (by decide) (fun h_ => absurd h_ (by decide)) (fun _ => ?_)
  refine x_aload_n C (dk ddX10_image 9 rfl) rfl ?_
  refine x_aload_n C (dk ddX10_image 10 rfl) rfl ?_
  refine x_getr C flX10_10 rfl (by have h_ := hC.1; omega) hC.fld.1 (show ax_R G a 0 = some (a + 1) from hC.fld.2.2 (0, 1) (by decide)) (dk ddX10_image 11 rfl) ?_
  refine x_getr C flX10_224 rfl (by have h_ := hC.state.1; omega) (show ax_K G (a + 1) = 8 + 7 from (hC.state.2 0 _ rfl).1) (show ax_R G (a + 1) 4 = some (a + 1 + 5) from (hC.state.2 0 _ rfl).2.2 (4, 5) (by decide)) (dk ddX10_image 12 rfl) ?_
  refine x_iload_n C (dk ddX10_image 13 rfl) rfl ?_
  refine x_iald_n C (by have h_ := hC.state.1; omega) (show ax_K G (a + 1 + 5) = 0 from (hC.state.2 5 _ rfl).1) (show ax_N G (a + 1 + 5) = 8 from (hC.state.2 5 _ rfl).2.1) (by omega) (by decide) (dk ddX10_image 14 rfl) ?_
  rw [show (I (a + 1 + 5) j) = nI h from (by repeat (first | exact ax_u_at _ _ _ _ | exact hh_j | rw [ax_u_ne (by omega)] | rw [ax_u_nj (by decide)] | rw [ax_sc_ne (by omega)] | rw [ax_rem_ne (by omega) (by omega)] | unfold ax_ldI | unfold ax_woI | unfold ax_rxI | unfold ax_frI0 | unfold ax_frI1 | unfold ax_frI2 | rw [hI_ _ (by omega)] | rw [hN_ (by omega)]))]
  refine x_iload C (dk ddX10_image 15 rfl) rfl ?_
  refine x_callV C (ci := 10) (As := [.int (nI h), .int (nI k)]) (k_X10_isPlace l D T o (d - 1) G I L a h (nI k) hC (by omega) (by omega)) mlX10_145 rfl rfl (by have h_ := hC.1; omega) hC.fld.1 ⟨by show d - 1 + 1 ≤ d; omega, by show 40 * (d - 1 + 1) ≤ 40 * d; omega⟩ ⟨Nat.le_refl _, Nat.le_refl _⟩ rfl (Nat.le_of_ble_eq_true rfl) (dk ddX10_image 16 rfl) ?_
  rintro v_ G_ I_ L_ ⟨rfl, rfl, rfl, rfl⟩
  rw [show (ax_rng (nI k) (I (a + 1 + 1) h)) = true from by rw [show I (a + 1 + 1) h = nI (gn h) from (by repeat (first | exact ax_u_at _ _ _ _ | exact (hgn h (by omega)).1 | rw [ax_u_ne (by omega)] | rw [ax_u_nj (by decide)] | rw [ax_sc_ne (by omega)] | rw [ax_rem_ne (by omega) (by omega)] | unfold ax_ldI | unfold ax_woI | unfold ax_rxI | unfold ax_frI0 | unfold ax_frI1 | unfold ax_frI2 | rw [hI_ _ (by omega)] | rw [hN_ (by omega)]))]; exact (ax_rng_ok hk (by have h_ := (hgn h (by omega)).2; omega))]
  refine x_if_ne_b C (tgt := 41) (dk ddX10_image 17 rfl) (by decide) (fun _ => ?_) (fun h_ => absurd h_ (by decide))
  refine x_aload_n C (dk ddX10_image 21 rfl) rfl ?_
  refine x_getr C flX10_59 rfl (by have h_ := hC.1; omega) hC.fld.1 (show ax_R G a 8 = some (a + 483) from hC.fld.2.2 (8, 483) (by decide)) (dk ddX10_image 22 rfl) ?_
  refine x_aload_n C (dk ddX10_image 23 rfl) rfl ?_
  refine x_getr C flX10_10 rfl (by have h_ := hC.1; omega) hC.fld.1 (show ax_R G a 0 = some (a + 1) from hC.fld.2.2 (0, 1) (by decide)) (dk ddX10_image 24 rfl) ?_
  refine x_iload_n C (dk ddX10_image 25 rfl) rfl ?_
  refine x_callV C (ci := 3) (As := [.ref (a + 1), .int (nI j)]) (k_X3_load l D T o (d - 1) G I L (a + 483) (a + 1) j g h (gn g) (gc g) (gn h) (gc h) hC.work hC.state (by omega) hf_j (by repeat (first | exact ax_u_at _ _ _ _ | exact hg_j | rw [ax_u_ne (by omega)] | rw [ax_u_nj (by decide)] | rw [ax_sc_ne (by omega)] | rw [ax_rem_ne (by omega) (by omega)] | unfold ax_ldI | unfold ax_woI | unfold ax_rxI | unfold ax_frI0 | unfold ax_frI1 | unfold ax_frI2 | rw [hI_ _ (by omega)] | rw [hN_ (by omega)])) hl_j (by repeat (first | exact ax_u_at _ _ _ _ | exact hh_j | rw [ax_u_ne (by omega)] | rw [ax_u_nj (by decide)] | rw [ax_sc_ne (by omega)] | rw [ax_rem_ne (by omega) (by omega)] | unfold ax_ldI | unfold ax_woI | unfold ax_rxI | unfold ax_frI0 | unfold ax_frI1 | unfold ax_frI2 | rw [hI_ _ (by omega)] | rw [hN_ (by omega)])) hm_j (by repeat (first | exact ax_u_at _ _ _ _ | exact (hgn g hl_j).1 | rw [ax_u_ne (by omega)] | rw [ax_u_nj (by decide)] | rw [ax_sc_ne (by omega)] | rw [ax_rem_ne (by omega) (by omega)] | unfold ax_ldI | unfold ax_woI | unfold ax_rxI | unfold ax_frI0 | unfold ax_frI1 | unfold ax_frI2 | rw [hI_ _ (by omega)] | rw [hN_ (by omega)])) (hgn g hl_j).2 (by repeat (first | exact ax_u_at _ _ _ _ | exact (hgc g hl_j).1 | rw [ax_u_ne (by omega)] | rw [ax_u_nj (by decide)] | rw [ax_sc_ne (by omega)] | rw [ax_rem_ne (by omega) (by omega)] | unfold ax_ldI | unfold ax_woI | unfold ax_rxI | unfold ax_frI0 | unfold ax_frI1 | unfold ax_frI2 | rw [hI_ _ (by omega)] | rw [hN_ (by omega)])) (hgc g hl_j).2 (by repeat (first | exact ax_u_at _ _ _ _ | exact (hgn h hm_j).1 | rw [ax_u_ne (by omega)] | rw [ax_u_nj (by decide)] | rw [ax_sc_ne (by omega)] | rw [ax_rem_ne (by omega) (by omega)] | unfold ax_ldI | unfold ax_woI | unfold ax_rxI | unfold ax_frI0 | unfold ax_frI1 | unfold ax_frI2 | rw [hI_ _ (by omega)] | rw [hN_ (by omega)])) (hgn h hm_j).2 (by repeat (first | exact ax_u_at _ _ _ _ | exact (hgc h hm_j).1 | rw [ax_u_ne (by omega)] | rw [ax_u_nj (by decide)] | rw [ax_sc_ne (by omega)] | rw [ax_rem_ne (by omega) (by omega)] | unfold ax_ldI | unfold ax_woI | unfold ax_rxI | unfold ax_frI0 | unfold ax_frI1 | unfold ax_frI2 | rw [hI_ _ (by omega)] | rw [hN_ (by omega)])) (hgc h hm_j).2 (by omega)) mlX10_227 rfl rfl (by have h_ := hC.work.1; omega) hC.work.fld.1 ⟨by show d - 1 + 1 ≤ d; omega, by show 40 * (d - 1 + 1) ≤ 40 * d; omega⟩ ⟨Nat.le_refl _, Nat.le_refl _⟩ rfl (Nat.le_of_ble_eq_true rfl) (dk ddX10_image 26 rfl) ?_
  rintro v_ G_ I_ L_ ⟨rfl, rfl, rfl, rfl⟩
  rw [show (ax_ldv I L (a + 483) (a + 1) j g h (gn g) (gc g) (gn h) (gc h)) = false from hw]
  refine x_if_ne_b C (tgt := 62) (dk ddX10_image 27 rfl) (by decide) (fun h_ => absurd h_ (by decide)) (fun _ => ?_)
  refine x_bipush C (v := (-4)) (dk ddX10_image 28 rfl) (by decide) ?_
  refine x_callS C (As := [.int (-4)]) (k_X10_refused l D T o (d - 1) G (ax_ldI I (a + 483) (gn g) (gn h)) (ax_ldL I L (a + 483) (a + 1) j g h (gn g) (gc g) (gn h) (gc h)) (-4)) mlX10_160 ⟨by show d - 1 + 1 ≤ d; omega, by show 40 * (d - 1 + 1) ≤ 40 * d; omega⟩ ⟨Nat.le_refl _, Nat.le_refl _⟩ rfl (Nat.le_of_ble_eq_true rfl) (dk ddX10_image 29 rfl) ?_
  rintro v_ G_ I_ L_ ⟨rfl, rfl, rfl, rfl⟩
  exact x_lret C rfl ⟨rfl, rfl, rfl, rfl⟩ rfl rfl (dk ddX10_image 30 rfl)
def ax_imL (I : ax_I) (L : ax_L) (a : Nat) (j : Nat) (g : Nat) (h : Nat) (x : Int32) (y : Int32) (z : Int32) (gn : Nat → Nat) (gc : Nat → Nat) : ax_L := ax_rfo (a + 483 + 10) (a + 622) (gn h) 0 ((gn h) - 0) (ax_apt (ax_ldI I (a + 483) (gn g) (gn h)) (a + 1 + 6) (9 * j) (a + 621) (a + 622) (ax_tl (a + 621) (gn g) x y z (ax_ldL I L (a + 483) (a + 1) j g h (gn g) (gc g) (gn h) (gc h))) 3)
set_option maxRecDepth 20000 in
/-- image(j, x, y, z, k) -/
theorem k_X10_image (l : Launch) (D : va_G) (T : Nat → ClassId) (o d : Nat) (G : ax_G) (I : ax_I) (L : ax_L) (a j g h k : Nat) (x y z : Int32) (gn gc : Nat → Nat) (hC : ax_Cls G a) (hgn : ∀ g, g < 6 → I (a + 1 + 1) g = nI (gn g) ∧ gn g ≤ 3) (hgc : ∀ g, g < 6 → I (a + 1 + 2) g = nI (gc g) ∧ gc g ≤ 4) (hf_j : j < 8) (hg_j : I (a + 1 + 4) j = nI g) (hl_j : g < 6) (hh_j : I (a + 1 + 5) j = nI h) (hm_j : h < 6) (he : (ax_iw x.toInt64 (999 : Int32).toInt64 && ax_iw y.toInt64 (999 : Int32).toInt64 && ax_iw z.toInt64 (999 : Int32).toInt64) = true) (hk : k < gn h) (hw : ax_ldv I L (a + 483) (a + 1) j g h (gn g) (gc g) (gn h) (gc h) = true) (hd : 7 ≤ d) : ax_Con l D T o yX10_image cX10_image 6 (some .long) d 0 0 [.ref a, .int (nI j), .int x, .int y, .int z, .int (nI k)] G I L (fun zz G' I' L' => zz = some (.long ((ax_rfo (a + 483 + 10) (a + 622) (gn h) 0 ((gn h) - 0) (ax_apt (ax_ldI I (a + 483) (gn g) (gn h)) (a + 1 + 6) (9 * j) (a + 621) (a + 622) (ax_tl (a + 621) (gn g) x y z (ax_ldL I L (a + 483) (a + 1) j g h (gn g) (gc g) (gn h) (gc h))) 3)) (a + 622) k)) ∧ G = G' ∧ (ax_ldI I (a + 483) (gn g) (gn h)) = I' ∧ (ax_imL I L a j g h x y z gn gc) = L') := by
  refine ax_enter (by decide +kernel) (Nat.le_of_ble_eq_true rfl) ?_
  intro p_ e_ s_ m_ args_ below_ meth_ c_ C _
  refine x_lvs (lv' := [(0, .ref a), (1, .int (nI j)), (2, .int x), (3, .int y), (4, .int z), (5, .int (nI k))]) rfl ?_
  have hb_ := (hgn g hl_j).2
  have hb2_ := (hgn h hm_j).2
  refine x_aload_n C (dk ddX10_image 0 rfl) rfl ?_
  refine x_iload_n C (dk ddX10_image 1 rfl) rfl ?_
  refine x_callV C (ci := 10) (As := [.int (nI j)]) (k_X10_isMap l D T o (d - 1) G I L a j hC (by omega) (by omega)) mlX10_218 rfl rfl (by have h_ := hC.1; omega) hC.fld.1 ⟨by show d - 1 + 1 ≤ d; omega, by show 40 * (d - 1 + 1) ≤ 40 * d; omega⟩ ⟨Nat.le_refl _, Nat.le_refl _⟩ rfl (Nat.le_of_ble_eq_true rfl) (dk ddX10_image 2 rfl) ?_
  rintro v_ G_ I_ L_ ⟨rfl, rfl, rfl, rfl⟩
  rw [show (!decide (I (a + 1 + 4) j = -1)) = true from by rw [show I (a + 1 + 4) j = nI g from (by repeat (first | exact ax_u_at _ _ _ _ | exact hg_j | rw [ax_u_ne (by omega)] | rw [ax_u_nj (by decide)] | rw [ax_sc_ne (by omega)] | rw [ax_rem_ne (by omega) (by omega)] | unfold ax_ldI | unfold ax_woI | unfold ax_rxI | unfold ax_frI0 | unfold ax_frI1 | unfold ax_frI2 | rw [hI_ _ (by omega)] | rw [hN_ (by omega)]))]; exact ax_hm hl_j]
  refine x_if_eq_b C (tgt := 36) (dk ddX10_image 3 rfl) (by decide) (fun h_ => absurd h_ (by decide)) (fun _ => ?_)
  refine x_iload_n C (dk ddX10_image 4 rfl) rfl ?_
  refine x_iload_n C (dk ddX10_image 5 rfl) rfl ?_
  refine x_iload C (dk ddX10_image 6 rfl) rfl ?_
  refine x_callS C (As := [.int x, .int y, .int z]) (k_X10_isElement l D T o (d - 1) G I L x y z (by omega)) mlX10_156 ⟨by show d - 1 + 1 ≤ d; omega, by show 40 * (d - 1 + 1) ≤ 40 * d; omega⟩ ⟨Nat.le_refl _, Nat.le_refl _⟩ rfl (Nat.le_of_ble_eq_true rfl) (dk ddX10_image 7 rfl) ?_
  rintro v_ G_ I_ L_ ⟨rfl, rfl, rfl, rfl⟩
  rw [show (ax_iw x.toInt64 (999 : Int32).toInt64 && ax_iw y.toInt64 (999 : Int32).toInt64 && ax_iw z.toInt64 (999 : Int32).toInt64) = true from he]
  refine x_if_eq_b C (tgt := 36) (dk ddX10_image 8 rfl) (by decide) (fun h_ => absurd h_ (by decide)) (fun _ => ?_)
  refine x_aload_n C (dk ddX10_image 9 rfl) rfl ?_
  refine x_aload_n C (dk ddX10_image 10 rfl) rfl ?_
  refine x_getr C flX10_10 rfl (by have h_ := hC.1; omega) hC.fld.1 (show ax_R G a 0 = some (a + 1) from hC.fld.2.2 (0, 1) (by decide)) (dk ddX10_image 11 rfl) ?_
  refine x_getr C flX10_224 rfl (by have h_ := hC.state.1; omega) (show ax_K G (a + 1) = 8 + 7 from (hC.state.2 0 _ rfl).1) (show ax_R G (a + 1) 4 = some (a + 1 + 5) from (hC.state.2 0 _ rfl).2.2 (4, 5) (by decide)) (dk ddX10_image 12 rfl) ?_
  refine x_iload_n C (dk ddX10_image 13 rfl) rfl ?_
  refine x_iald_n C (by have h_ := hC.state.1; omega) (show ax_K G (a + 1 + 5) = 0 from (hC.state.2 5 _ rfl).1) (show ax_N G (a + 1 + 5) = 8 from (hC.state.2 5 _ rfl).2.1) (by omega) (by decide) (dk ddX10_image 14 rfl) ?_
  rw [show (I (a + 1 + 5) j) = nI h from (by repeat (first | exact ax_u_at _ _ _ _ | exact hh_j | rw [ax_u_ne (by omega)] | rw [ax_u_nj (by decide)] | rw [ax_sc_ne (by omega)] | rw [ax_rem_ne (by omega) (by omega)] | unfold ax_ldI | unfold ax_woI | unfold ax_rxI | unfold ax_frI0 | unfold ax_frI1 | unfold ax_frI2 | rw [hI_ _ (by omega)] | rw [hN_ (by omega)]))]
  refine x_iload C (dk ddX10_image 15 rfl) rfl ?_
  refine x_callV C (ci := 10) (As := [.int (nI h), .int (nI k)]) (k_X10_isPlace l D T o (d - 1) G I L a h (nI k) hC (by omega) (by omega)) mlX10_145 rfl rfl (by have h_ := hC.1; omega) hC.fld.1 ⟨by show d - 1 + 1 ≤ d; omega, by show 40 * (d - 1 + 1) ≤ 40 * d; omega⟩ ⟨Nat.le_refl _, Nat.le_refl _⟩ rfl (Nat.le_of_ble_eq_true rfl) (dk ddX10_image 16 rfl) ?_
  rintro v_ G_ I_ L_ ⟨rfl, rfl, rfl, rfl⟩
  rw [show (ax_rng (nI k) (I (a + 1 + 1) h)) = true from by rw [show I (a + 1 + 1) h = nI (gn h) from (by repeat (first | exact ax_u_at _ _ _ _ | exact (hgn h (by omega)).1 | rw [ax_u_ne (by omega)] | rw [ax_u_nj (by decide)] | rw [ax_sc_ne (by omega)] | rw [ax_rem_ne (by omega) (by omega)] | unfold ax_ldI | unfold ax_woI | unfold ax_rxI | unfold ax_frI0 | unfold ax_frI1 | unfold ax_frI2 | rw [hI_ _ (by omega)] | rw [hN_ (by omega)]))]; exact (ax_rng_ok hk (by have h_ := (hgn h (by omega)).2; omega))]
  refine x_if_ne_b C (tgt := 41) (dk ddX10_image 17 rfl) (by decide) (fun _ => ?_) (fun h_ => absurd h_ (by decide))
  refine x_aload_n C (dk ddX10_image 21 rfl) rfl ?_
  refine x_getr C flX10_59 rfl (by have h_ := hC.1; omega) hC.fld.1 (show ax_R G a 8 = some (a + 483) from hC.fld.2.2 (8, 483) (by decide)) (dk ddX10_image 22 rfl) ?_
  refine x_aload_n C (dk ddX10_image 23 rfl) rfl ?_
  refine x_getr C flX10_10 rfl (by have h_ := hC.1; omega) hC.fld.1 (show ax_R G a 0 = some (a + 1) from hC.fld.2.2 (0, 1) (by decide)) (dk ddX10_image 24 rfl) ?_
  refine x_iload_n C (dk ddX10_image 25 rfl) rfl ?_
  refine x_callV C (ci := 3) (As := [.ref (a + 1), .int (nI j)]) (k_X3_load l D T o (d - 1) G I L (a + 483) (a + 1) j g h (gn g) (gc g) (gn h) (gc h) hC.work hC.state (by omega) hf_j (by repeat (first | exact ax_u_at _ _ _ _ | exact hg_j | rw [ax_u_ne (by omega)] | rw [ax_u_nj (by decide)] | rw [ax_sc_ne (by omega)] | rw [ax_rem_ne (by omega) (by omega)] | unfold ax_ldI | unfold ax_woI | unfold ax_rxI | unfold ax_frI0 | unfold ax_frI1 | unfold ax_frI2 | rw [hI_ _ (by omega)] | rw [hN_ (by omega)])) hl_j (by repeat (first | exact ax_u_at _ _ _ _ | exact hh_j | rw [ax_u_ne (by omega)] | rw [ax_u_nj (by decide)] | rw [ax_sc_ne (by omega)] | rw [ax_rem_ne (by omega) (by omega)] | unfold ax_ldI | unfold ax_woI | unfold ax_rxI | unfold ax_frI0 | unfold ax_frI1 | unfold ax_frI2 | rw [hI_ _ (by omega)] | rw [hN_ (by omega)])) hm_j (by repeat (first | exact ax_u_at _ _ _ _ | exact (hgn g hl_j).1 | rw [ax_u_ne (by omega)] | rw [ax_u_nj (by decide)] | rw [ax_sc_ne (by omega)] | rw [ax_rem_ne (by omega) (by omega)] | unfold ax_ldI | unfold ax_woI | unfold ax_rxI | unfold ax_frI0 | unfold ax_frI1 | unfold ax_frI2 | rw [hI_ _ (by omega)] | rw [hN_ (by omega)])) (hgn g hl_j).2 (by repeat (first | exact ax_u_at _ _ _ _ | exact (hgc g hl_j).1 | rw [ax_u_ne (by omega)] | rw [ax_u_nj (by decide)] | rw [ax_sc_ne (by omega)] | rw [ax_rem_ne (by omega) (by omega)] | unfold ax_ldI | unfold ax_woI | unfold ax_rxI | unfold ax_frI0 | unfold ax_frI1 | unfold ax_frI2 | rw [hI_ _ (by omega)] | rw [hN_ (by omega)])) (hgc g hl_j).2 (by repeat (first | exact ax_u_at _ _ _ _ | exact (hgn h hm_j).1 | rw [ax_u_ne (by omega)] | rw [ax_u_nj (by decide)] | rw [ax_sc_ne (by omega)] | rw [ax_rem_ne (by omega) (by omega)] | unfold ax_ldI | unfold ax_woI | unfold ax_rxI | unfold ax_frI0 | unfold ax_frI1 | unfold ax_frI2 | rw [hI_ _ (by omega)] | rw [hN_ (by omega)])) (hgn h hm_j).2 (by repeat (first | exact ax_u_at _ _ _ _ | exact (hgc h hm_j).1 | rw [ax_u_ne (by omega)] | rw [ax_u_nj (by decide)] | rw [ax_sc_ne (by omega)] | rw [ax_rem_ne (by omega) (by omega)] | unfold ax_ldI | unfold ax_woI | unfold ax_rxI | unfold ax_frI0 | unfold ax_frI1 | unfold ax_frI2 | rw [hI_ _ (by omega)] | rw [hN_ (by omega)])) (hgc h hm_j).2 (by omega)) mlX10_227 rfl rfl (by have h_ := hC.work.1; omega) hC.work.fld.1 ⟨by show d - 1 + 1 ≤ d; omega, by show 40 * (d - 1 + 1) ≤ 40 * d; omega⟩ ⟨Nat.le_refl _, Nat.le_refl _⟩ rfl (Nat.le_of_ble_eq_true rfl) (dk ddX10_image 26 rfl) ?_
  rintro v_ G_ I_ L_ ⟨rfl, rfl, rfl, rfl⟩
  rw [show (ax_ldv I L (a + 483) (a + 1) j g h (gn g) (gc g) (gn h) (gc h)) = true from hw]
  refine x_if_ne_b C (tgt := 62) (dk ddX10_image 27 rfl) (by decide) (fun _ => ?_) (fun h_ => absurd h_ (by decide))
  refine x_aload_n C (dk ddX10_image 31 rfl) rfl ?_
  refine x_aload_n C (dk ddX10_image 32 rfl) rfl ?_
  refine x_getr C flX10_10 rfl (by have h_ := hC.1; omega) hC.fld.1 (show ax_R G a 0 = some (a + 1) from hC.fld.2.2 (0, 1) (by decide)) (dk ddX10_image 33 rfl) ?_
  refine x_getr C flX10_221 rfl (by have h_ := hC.state.1; omega) (show ax_K G (a + 1) = 8 + 7 from (hC.state.2 0 _ rfl).1) (show ax_R G (a + 1) 3 = some (a + 1 + 4) from (hC.state.2 0 _ rfl).2.2 (3, 4) (by decide)) (dk ddX10_image 34 rfl) ?_
  refine x_iload_n C (dk ddX10_image 35 rfl) rfl ?_
  refine x_iald_n C (by have h_ := hC.state.1; omega) (show ax_K G (a + 1 + 4) = 0 from (hC.state.2 4 _ rfl).1) (show ax_N G (a + 1 + 4) = 8 from (hC.state.2 4 _ rfl).2.1) (by omega) (by decide) (dk ddX10_image 36 rfl) ?_
  rw [show ((ax_ldI I (a + 483) (gn g) (gn h)) (a + 1 + 4) j) = nI g from (by repeat (first | exact ax_u_at _ _ _ _ | exact hg_j | rw [ax_u_ne (by omega)] | rw [ax_u_nj (by decide)] | rw [ax_sc_ne (by omega)] | rw [ax_rem_ne (by omega) (by omega)] | unfold ax_ldI | unfold ax_woI | unfold ax_rxI | unfold ax_frI0 | unfold ax_frI1 | unfold ax_frI2 | rw [hI_ _ (by omega)] | rw [hN_ (by omega)]))]
  refine x_iload_n C (dk ddX10_image 37 rfl) rfl ?_
  refine x_iload_n C (dk ddX10_image 38 rfl) rfl ?_
  refine x_iload C (dk ddX10_image 39 rfl) rfl ?_
  refine x_callV C (ci := 10) (As := [.int (nI g), .int x, .int y, .int z]) (k_X10_tell l D T o (d - 1) G (ax_ldI I (a + 483) (gn g) (gn h)) (ax_ldL I L (a + 483) (a + 1) j g h (gn g) (gc g) (gn h) (gc h)) a g (gn g) x y z hC (by omega) (by repeat (first | exact ax_u_at _ _ _ _ | exact (hgn g (by omega)).1 | rw [ax_u_ne (by omega)] | rw [ax_u_nj (by decide)] | rw [ax_sc_ne (by omega)] | rw [ax_rem_ne (by omega) (by omega)] | unfold ax_ldI | unfold ax_woI | unfold ax_rxI | unfold ax_frI0 | unfold ax_frI1 | unfold ax_frI2 | rw [hI_ _ (by omega)] | rw [hN_ (by omega)])) (hgn g (by omega)).2 (by omega)) mlX10_121 rfl rfl (by have h_ := hC.1; omega) hC.fld.1 ⟨by show d - 1 + 1 ≤ d; omega, by show 40 * (d - 1 + 1) ≤ 40 * d; omega⟩ ⟨Nat.le_refl _, Nat.le_refl _⟩ rfl (Nat.le_of_ble_eq_true rfl) (dk ddX10_image 40 rfl) ?_
  rintro v_ G_ I_ L_ ⟨rfl, rfl, rfl, rfl⟩
  refine x_aload_n C (dk ddX10_image 41 rfl) rfl ?_
  refine x_getr C flX10_10 rfl (by have h_ := hC.1; omega) hC.fld.1 (show ax_R G a 0 = some (a + 1) from hC.fld.2.2 (0, 1) (by decide)) (dk ddX10_image 42 rfl) ?_
  refine x_iload_n C (dk ddX10_image 43 rfl) rfl ?_
  refine x_aload_n C (dk ddX10_image 44 rfl) rfl ?_
  refine x_getr C flX10_89 rfl (by have h_ := hC.1; omega) hC.fld.1 (show ax_R G a 15 = some (a + 621) from hC.fld.2.2 (15, 621) (by decide)) (dk ddX10_image 45 rfl) ?_
  refine x_aload_n C (dk ddX10_image 46 rfl) rfl ?_
  refine x_getr C flX10_93 rfl (by have h_ := hC.1; omega) hC.fld.1 (show ax_R G a 16 = some (a + 622) from hC.fld.2.2 (16, 622) (by decide)) (dk ddX10_image 47 rfl) ?_
  refine x_callV C (ci := 7) (As := [.int (nI j), .ref (a + 621), .ref (a + 622)]) (k_X7_mapRow l D T o (d - 1) G (ax_ldI I (a + 483) (gn g) (gn h)) (ax_tl (a + 621) (gn g) x y z (ax_ldL I L (a + 483) (a + 1) j g h (gn g) (gc g) (gn h) (gc h))) (a + 1) j (a + 621) (a + 622) 6 6 hC.state hf_j ⟨hC.row.1, hC.row.2.1, hC.row.2.2⟩ (by decide) (by decide) ⟨hC.otherRow.1, hC.otherRow.2.1, hC.otherRow.2.2⟩ (by decide) (by decide) (by omega)) mlX10_242 rfl rfl (by have h_ := hC.state.1; omega) (show ax_K G (a + 1) = 8 + 7 from (hC.state.2 0 _ rfl).1) ⟨by show d - 1 + 1 ≤ d; omega, by show 40 * (d - 1 + 1) ≤ 40 * d; omega⟩ ⟨Nat.le_refl _, Nat.le_refl _⟩ rfl (Nat.le_of_ble_eq_true rfl) (dk ddX10_image 48 rfl) ?_
  rintro v_ G_ I_ L_ ⟨rfl, rfl, rfl, rfl⟩
  refine x_aload_n C (dk ddX10_image 49 rfl) rfl ?_
  refine x_getr C flX10_59 rfl (by have h_ := hC.1; omega) hC.fld.1 (show ax_R G a 8 = some (a + 483) from hC.fld.2.2 (8, 483) (by decide)) (dk ddX10_image 50 rfl) ?_
  refine x_getr C flX10_246 rfl (by have h_ := hC.work.1; omega) hC.work.fld.1 (show ax_R G (a + 483) 1 = some (a + 483 + 10) from hC.work.fld.2.2 (1, 10) (by decide)) (dk ddX10_image 51 rfl) ?_
  refine x_aload_n C (dk ddX10_image 52 rfl) rfl ?_
  refine x_getr C flX10_93 rfl (by have h_ := hC.1; omega) hC.fld.1 (show ax_R G a 16 = some (a + 622) from hC.fld.2.2 (16, 622) (by decide)) (dk ddX10_image 53 rfl) ?_
  refine x_callV C (ci := 2) (As := [.ref (a + 622)]) (k_X2_reduce_n l D T o (d - 1) G (ax_ldI I (a + 483) (gn g) (gn h)) (ax_apt (ax_ldI I (a + 483) (gn g) (gn h)) (a + 1 + 6) (9 * j) (a + 621) (a + 622) (ax_tl (a + 621) (gn g) x y z (ax_ldL I L (a + 483) (a + 1) j g h (gn g) (gc g) (gn h) (gc h))) 3) (a + 483 + 10) (a + 622) (gn h) 6 hC.work.target (by repeat (first | exact ax_u_at _ _ _ _ | rw [ax_u_ne (by omega)] | rw [ax_u_nj (by decide)] | rw [ax_sc_ne (by omega)] | rw [ax_rem_ne (by omega) (by omega)] | unfold ax_ldI | unfold ax_woI | unfold ax_rxI | unfold ax_frI0 | unfold ax_frI1 | unfold ax_frI2 | rw [hI_ _ (by omega)] | rw [hN_ (by omega)])) (Nat.le_trans (hgn h (by omega)).2 (by decide)) ⟨hC.otherRow.1, hC.otherRow.2.1, hC.otherRow.2.2⟩ (Nat.le_trans (hgn h (by omega)).2 (by decide)) (by decide) (by omega)) mlX10_163 rfl rfl (by have h_ := hC.work.target.1; omega) hC.work.target.2.1 ⟨by show d - 1 + 1 ≤ d; omega, by show 40 * (d - 1 + 1) ≤ 40 * d; omega⟩ ⟨Nat.le_refl _, Nat.le_refl _⟩ rfl (Nat.le_of_ble_eq_true rfl) (dk ddX10_image 54 rfl) ?_
  rintro v_ G_ I_ L_ ⟨rfl, rfl, rfl, rfl⟩
  refine x_aload_n C (dk ddX10_image 55 rfl) rfl ?_
  refine x_getr C flX10_93 rfl (by have h_ := hC.1; omega) hC.fld.1 (show ax_R G a 16 = some (a + 622) from hC.fld.2.2 (16, 622) (by decide)) (dk ddX10_image 56 rfl) ?_
  refine x_iload C (dk ddX10_image 57 rfl) rfl ?_
  refine x_lald_n C hC.otherRow.1 hC.otherRow.2.1 hC.otherRow.2.2 (by omega) (by decide) (dk ddX10_image 58 rfl) ?_
  exact x_lret C rfl ⟨rfl, rfl, rfl, rfl⟩ rfl rfl (dk ddX10_image 59 rfl)
set_option maxRecDepth 20000 in
/-- whence of no map -/
theorem k_X10_whence_bad (l : Launch) (D : va_G) (T : Nat → ClassId) (o d : Nat) (G : ax_G) (I : ax_I) (L : ax_L) (a : Nat) (f k : Int32) (x y z : Int32) (hC : ax_Cls G a) (hbad : (ax_in3 f.toInt64 0 7 && !decide (I (a + 1 + 4) f.toNatClampNeg = -1)) = false) (hd : 3 ≤ d) : ax_Con l D T o yX10_whence cX10_whence 6 (some .long) d 0 0 [.ref a, .int f, .int x, .int y, .int z, .int k] G I L (fun zz G' I' L' => zz = some (.long ((-4000000000000000000) + (-1).toInt64)) ∧ G = G' ∧ I = I' ∧ L = L') := by
  refine ax_enter (by decide +kernel) (Nat.le_of_ble_eq_true rfl) ?_
  intro p_ e_ s_ m_ args_ below_ meth_ c_ C _
  refine x_lvs (lv' := [(0, .ref a), (1, .int f), (2, .int x), (3, .int y), (4, .int z), (5, .int k)]) rfl ?_
  refine x_aload_n C (dk ddX10_whence 0 rfl) rfl ?_
  refine x_iload_n C (dk ddX10_whence 1 rfl) rfl ?_
  refine x_callV C (ci := 10) (As := [.int f]) (k_X10_isMapI l D T o (d - 1) G I L a f hC (by omega)) mlX10_218 rfl rfl (by have h_ := hC.1; omega) hC.fld.1 ⟨by show d - 1 + 1 ≤ d; omega, by show 40 * (d - 1 + 1) ≤ 40 * d; omega⟩ ⟨Nat.le_refl _, Nat.le_refl _⟩ rfl (Nat.le_of_ble_eq_true rfl) (dk ddX10_whence 2 rfl) ?_
  rintro v_ G_ I_ L_ ⟨rfl, rfl, rfl, rfl⟩
  rw [show (ax_in3 f.toInt64 0 7 && !decide (I (a + 1 + 4) f.toNatClampNeg = -1)) = false from hbad]
  refine x_if_eq_b C (tgt := 36) (dk ddX10_whence 3 rfl) (by decide) (fun _ => ?_) (fun h_ => absurd h_ (by decide))
  refine x_iconst C (v := (-1)) (dk ddX10_whence 18 rfl) (by decide) ?_
  refine x_callS C (As := [.int (-1)]) (k_X10_refused l D T o (d - 1) G I L (-1)) mlX10_160 ⟨by show d - 1 + 1 ≤ d; omega, by show 40 * (d - 1 + 1) ≤ 40 * d; omega⟩ ⟨Nat.le_refl _, Nat.le_refl _⟩ rfl (Nat.le_of_ble_eq_true rfl) (dk ddX10_whence 19 rfl) ?_
  rintro v_ G_ I_ L_ ⟨rfl, rfl, rfl, rfl⟩
  exact x_lret C rfl ⟨rfl, rfl, rfl, rfl⟩ rfl rfl (dk ddX10_whence 20 rfl)
set_option maxRecDepth 20000 in
/-- whence of no element -/
theorem k_X10_whence_el (l : Launch) (D : va_G) (T : Nat → ClassId) (o d : Nat) (G : ax_G) (I : ax_I) (L : ax_L) (a j g h : Nat) (k : Int32) (x y z : Int32) (gn gc : Nat → Nat) (hC : ax_Cls G a) (hgn : ∀ g, g < 6 → I (a + 1 + 1) g = nI (gn g) ∧ gn g ≤ 3) (hgc : ∀ g, g < 6 → I (a + 1 + 2) g = nI (gc g) ∧ gc g ≤ 4) (hf_j : j < 8) (hg_j : I (a + 1 + 4) j = nI g) (hl_j : g < 6) (hh_j : I (a + 1 + 5) j = nI h) (hm_j : h < 6) (hbad : (ax_iw x.toInt64 (999 : Int32).toInt64 && ax_iw y.toInt64 (999 : Int32).toInt64 && ax_iw z.toInt64 (999 : Int32).toInt64) = false) (hd : 7 ≤ d) : ax_Con l D T o yX10_whence cX10_whence 6 (some .long) d 0 0 [.ref a, .int (nI j), .int x, .int y, .int z, .int k] G I L (fun zz G' I' L' => zz = some (.long ((-4000000000000000000) + (-1).toInt64)) ∧ G = G' ∧ I = I' ∧ L = L') := by
  refine ax_enter (by decide +kernel) (Nat.le_of_ble_eq_true rfl) ?_
  intro p_ e_ s_ m_ args_ below_ meth_ c_ C _
  refine x_lvs (lv' := [(0, .ref a), (1, .int (nI j)), (2, .int x), (3, .int y), (4, .int z), (5, .int k)]) rfl ?_
  refine x_aload_n C (dk ddX10_whence 0 rfl) rfl ?_
  refine x_iload_n C (dk ddX10_whence 1 rfl) rfl ?_
  refine x_callV C (ci := 10) (As := [.int (nI j)]) (k_X10_isMap l D T o (d - 1) G I L a j hC (by omega) (by omega)) mlX10_218 rfl rfl (by have h_ := hC.1; omega) hC.fld.1 ⟨by show d - 1 + 1 ≤ d; omega, by show 40 * (d - 1 + 1) ≤ 40 * d; omega⟩ ⟨Nat.le_refl _, Nat.le_refl _⟩ rfl (Nat.le_of_ble_eq_true rfl) (dk ddX10_whence 2 rfl) ?_
  rintro v_ G_ I_ L_ ⟨rfl, rfl, rfl, rfl⟩
  rw [show (!decide (I (a + 1 + 4) j = -1)) = true from by rw [show I (a + 1 + 4) j = nI g from (by repeat (first | exact ax_u_at _ _ _ _ | exact hg_j | rw [ax_u_ne (by omega)] | rw [ax_u_nj (by decide)] | rw [ax_sc_ne (by omega)] | rw [ax_rem_ne (by omega) (by omega)] | unfold ax_ldI | unfold ax_woI | unfold ax_rxI | unfold ax_frI0 | unfold ax_frI1 | unfold ax_frI2 | rw [hI_ _ (by omega)] | rw [hN_ (by omega)]))]; exact ax_hm hl_j]
  refine x_if_eq_b C (tgt := 36) (dk ddX10_whence 3 rfl) (by decide) (fun h_ => absurd h_ (by decide)) (fun _ => ?_)
  refine x_iload_n C (dk ddX10_whence 4 rfl) rfl ?_
  refine x_iload_n C (dk ddX10_whence 5 rfl) rfl ?_
  refine x_iload C (dk ddX10_whence 6 rfl) rfl ?_
  refine x_callS C (As := [.int x, .int y, .int z]) (k_X10_isElement l D T o (d - 1) G I L x y z (by omega)) mlX10_156 ⟨by show d - 1 + 1 ≤ d; omega, by show 40 * (d - 1 + 1) ≤ 40 * d; omega⟩ ⟨Nat.le_refl _, Nat.le_refl _⟩ rfl (Nat.le_of_ble_eq_true rfl) (dk ddX10_whence 7 rfl) ?_
  rintro v_ G_ I_ L_ ⟨rfl, rfl, rfl, rfl⟩
  rw [show (ax_iw x.toInt64 (999 : Int32).toInt64 && ax_iw y.toInt64 (999 : Int32).toInt64 && ax_iw z.toInt64 (999 : Int32).toInt64) = false from hbad]
  refine x_if_eq_b C (tgt := 36) (dk ddX10_whence 8 rfl) (by decide) (fun _ => ?_) (fun h_ => absurd h_ (by decide))
  refine x_iconst C (v := (-1)) (dk ddX10_whence 18 rfl) (by decide) ?_
  refine x_callS C (As := [.int (-1)]) (k_X10_refused l D T o (d - 1) G I L (-1)) mlX10_160 ⟨by show d - 1 + 1 ≤ d; omega, by show 40 * (d - 1 + 1) ≤ 40 * d; omega⟩ ⟨Nat.le_refl _, Nat.le_refl _⟩ rfl (Nat.le_of_ble_eq_true rfl) (dk ddX10_whence 19 rfl) ?_
  rintro v_ G_ I_ L_ ⟨rfl, rfl, rfl, rfl⟩
  exact x_lret C rfl ⟨rfl, rfl, rfl, rfl⟩ rfl rfl (dk ddX10_whence 20 rfl)
set_option maxRecDepth 20000 in
/-- whence of no place -/
theorem k_X10_whence_out (l : Launch) (D : va_G) (T : Nat → ClassId) (o d : Nat) (G : ax_G) (I : ax_I) (L : ax_L) (a j g h : Nat) (k : Int32) (x y z : Int32) (gn gc : Nat → Nat) (hC : ax_Cls G a) (hgn : ∀ g, g < 6 → I (a + 1 + 1) g = nI (gn g) ∧ gn g ≤ 3) (hgc : ∀ g, g < 6 → I (a + 1 + 2) g = nI (gc g) ∧ gc g ≤ 4) (hf_j : j < 8) (hg_j : I (a + 1 + 4) j = nI g) (hl_j : g < 6) (hh_j : I (a + 1 + 5) j = nI h) (hm_j : h < 6) (he : (ax_iw x.toInt64 (999 : Int32).toInt64 && ax_iw y.toInt64 (999 : Int32).toInt64 && ax_iw z.toInt64 (999 : Int32).toInt64) = true) (hbad : ax_rng k (nI (gn g)) = false) (hd : 7 ≤ d) : ax_Con l D T o yX10_whence cX10_whence 6 (some .long) d 0 0 [.ref a, .int (nI j), .int x, .int y, .int z, .int k] G I L (fun zz G' I' L' => zz = some (.long ((-4000000000000000000) + (-1).toInt64)) ∧ G = G' ∧ I = I' ∧ L = L') := by
  refine ax_enter (by decide +kernel) (Nat.le_of_ble_eq_true rfl) ?_
  intro p_ e_ s_ m_ args_ below_ meth_ c_ C _
  refine x_lvs (lv' := [(0, .ref a), (1, .int (nI j)), (2, .int x), (3, .int y), (4, .int z), (5, .int k)]) rfl ?_
  refine x_aload_n C (dk ddX10_whence 0 rfl) rfl ?_
  refine x_iload_n C (dk ddX10_whence 1 rfl) rfl ?_
  refine x_callV C (ci := 10) (As := [.int (nI j)]) (k_X10_isMap l D T o (d - 1) G I L a j hC (by omega) (by omega)) mlX10_218 rfl rfl (by have h_ := hC.1; omega) hC.fld.1 ⟨by show d - 1 + 1 ≤ d; omega, by show 40 * (d - 1 + 1) ≤ 40 * d; omega⟩ ⟨Nat.le_refl _, Nat.le_refl _⟩ rfl (Nat.le_of_ble_eq_true rfl) (dk ddX10_whence 2 rfl) ?_
  rintro v_ G_ I_ L_ ⟨rfl, rfl, rfl, rfl⟩
  rw [show (!decide (I (a + 1 + 4) j = -1)) = true from by rw [show I (a + 1 + 4) j = nI g from (by repeat (first | exact ax_u_at _ _ _ _ | exact hg_j | rw [ax_u_ne (by omega)] | rw [ax_u_nj (by decide)] | rw [ax_sc_ne (by omega)] | rw [ax_rem_ne (by omega) (by omega)] | unfold ax_ldI | unfold ax_woI | unfold ax_rxI | unfold ax_frI0 | unfold ax_frI1 | unfold ax_frI2 | rw [hI_ _ (by omega)] | rw [hN_ (by omega)]))]; exact ax_hm hl_j]
  refine x_if_eq_b C (tgt := 36) (dk ddX10_whence 3 rfl) (by decide) (fun h_ => absurd h_ (by decide)) (fun _ => ?_)
  refine x_iload_n C (dk ddX10_whence 4 rfl) rfl ?_
  refine x_iload_n C (dk ddX10_whence 5 rfl) rfl ?_
  refine x_iload C (dk ddX10_whence 6 rfl) rfl ?_
  refine x_callS C (As := [.int x, .int y, .int z]) (k_X10_isElement l D T o (d - 1) G I L x y z (by omega)) mlX10_156 ⟨by show d - 1 + 1 ≤ d; omega, by show 40 * (d - 1 + 1) ≤ 40 * d; omega⟩ ⟨Nat.le_refl _, Nat.le_refl _⟩ rfl (Nat.le_of_ble_eq_true rfl) (dk ddX10_whence 7 rfl) ?_
  rintro v_ G_ I_ L_ ⟨rfl, rfl, rfl, rfl⟩
  rw [show (ax_iw x.toInt64 (999 : Int32).toInt64 && ax_iw y.toInt64 (999 : Int32).toInt64 && ax_iw z.toInt64 (999 : Int32).toInt64) = true from he]
  refine x_if_eq_b C (tgt := 36) (dk ddX10_whence 8 rfl) (by decide) (fun h_ => absurd h_ (by decide)) (fun _ => ?_)
  refine x_aload_n C (dk ddX10_whence 9 rfl) rfl ?_
  refine x_aload_n C (dk ddX10_whence 10 rfl) rfl ?_
  refine x_getr C flX10_10 rfl (by have h_ := hC.1; omega) hC.fld.1 (show ax_R G a 0 = some (a + 1) from hC.fld.2.2 (0, 1) (by decide)) (dk ddX10_whence 11 rfl) ?_
  refine x_getr C flX10_221 rfl (by have h_ := hC.state.1; omega) (show ax_K G (a + 1) = 8 + 7 from (hC.state.2 0 _ rfl).1) (show ax_R G (a + 1) 3 = some (a + 1 + 4) from (hC.state.2 0 _ rfl).2.2 (3, 4) (by decide)) (dk ddX10_whence 12 rfl) ?_
  refine x_iload_n C (dk ddX10_whence 13 rfl) rfl ?_
  refine x_iald_n C (by have h_ := hC.state.1; omega) (show ax_K G (a + 1 + 4) = 0 from (hC.state.2 4 _ rfl).1) (show ax_N G (a + 1 + 4) = 8 from (hC.state.2 4 _ rfl).2.1) (by omega) (by decide) (dk ddX10_whence 14 rfl) ?_
  rw [show (I (a + 1 + 4) j) = nI g from (by repeat (first | exact ax_u_at _ _ _ _ | exact hg_j | rw [ax_u_ne (by omega)] | rw [ax_u_nj (by decide)] | rw [ax_sc_ne (by omega)] | rw [ax_rem_ne (by omega) (by omega)] | unfold ax_ldI | unfold ax_woI | unfold ax_rxI | unfold ax_frI0 | unfold ax_frI1 | unfold ax_frI2 | rw [hI_ _ (by omega)] | rw [hN_ (by omega)]))]
  refine x_iload C (dk ddX10_whence 15 rfl) rfl ?_
  refine x_callV C (ci := 10) (As := [.int (nI g), .int k]) (k_X10_isPlace l D T o (d - 1) G I L a g k hC (by omega) (by omega)) mlX10_145 rfl rfl (by have h_ := hC.1; omega) hC.fld.1 ⟨by show d - 1 + 1 ≤ d; omega, by show 40 * (d - 1 + 1) ≤ 40 * d; omega⟩ ⟨Nat.le_refl _, Nat.le_refl _⟩ rfl (Nat.le_of_ble_eq_true rfl) (dk ddX10_whence 16 rfl) ?_
  rintro v_ G_ I_ L_ ⟨rfl, rfl, rfl, rfl⟩
  rw [show (ax_rng k (I (a + 1 + 1) g)) = false from by rw [show I (a + 1 + 1) g = nI (gn g) from (by repeat (first | exact ax_u_at _ _ _ _ | exact (hgn g (by omega)).1 | rw [ax_u_ne (by omega)] | rw [ax_u_nj (by decide)] | rw [ax_sc_ne (by omega)] | rw [ax_rem_ne (by omega) (by omega)] | unfold ax_ldI | unfold ax_woI | unfold ax_rxI | unfold ax_frI0 | unfold ax_frI1 | unfold ax_frI2 | rw [hI_ _ (by omega)] | rw [hN_ (by omega)]))]; exact hbad]
  refine x_if_ne_b C (tgt := 41) (dk ddX10_whence 17 rfl) (by decide) (fun h_ => absurd h_ (by decide)) (fun _ => ?_)
  refine x_iconst C (v := (-1)) (dk ddX10_whence 18 rfl) (by decide) ?_
  refine x_callS C (As := [.int (-1)]) (k_X10_refused l D T o (d - 1) G I L (-1)) mlX10_160 ⟨by show d - 1 + 1 ≤ d; omega, by show 40 * (d - 1 + 1) ≤ 40 * d; omega⟩ ⟨Nat.le_refl _, Nat.le_refl _⟩ rfl (Nat.le_of_ble_eq_true rfl) (dk ddX10_whence 19 rfl) ?_
  rintro v_ G_ I_ L_ ⟨rfl, rfl, rfl, rfl⟩
  exact x_lret C rfl ⟨rfl, rfl, rfl, rfl⟩ rfl rfl (dk ddX10_whence 20 rfl)
set_option maxRecDepth 20000 in
/-- whence, not well -/
theorem k_X10_whence_no (l : Launch) (D : va_G) (T : Nat → ClassId) (o d : Nat) (G : ax_G) (I : ax_I) (L : ax_L) (a j g h k : Nat) (x y z : Int32) (gn gc : Nat → Nat) (hC : ax_Cls G a) (hgn : ∀ g, g < 6 → I (a + 1 + 1) g = nI (gn g) ∧ gn g ≤ 3) (hgc : ∀ g, g < 6 → I (a + 1 + 2) g = nI (gc g) ∧ gc g ≤ 4) (hf_j : j < 8) (hg_j : I (a + 1 + 4) j = nI g) (hl_j : g < 6) (hh_j : I (a + 1 + 5) j = nI h) (hm_j : h < 6) (he : (ax_iw x.toInt64 (999 : Int32).toInt64 && ax_iw y.toInt64 (999 : Int32).toInt64 && ax_iw z.toInt64 (999 : Int32).toInt64) = true) (hk : k < gn g) (hw : ax_ldv I L (a + 483) (a + 1) j g h (gn g) (gc g) (gn h) (gc h) = false) (hd : 7 ≤ d) : ax_Con l D T o yX10_whence cX10_whence 6 (some .long) d 0 0 [.ref a, .int (nI j), .int x, .int y, .int z, .int (nI k)] G I L (fun zz G' I' L' => zz = some (.long ((-4000000000000000000) + (-4).toInt64)) ∧ G = G' ∧ (ax_ldI I (a + 483) (gn g) (gn h)) = I' ∧ (ax_ldL I L (a + 483) (a + 1) j g h (gn g) (gc g) (gn h) (gc h)) = L') := by
  refine ax_enter (by decide +kernel) (Nat.le_of_ble_eq_true rfl) ?_
  intro p_ e_ s_ m_ args_ below_ meth_ c_ C _
  refine x_lvs (lv' := [(0, .ref a), (1, .int (nI j)), (2, .int x), (3, .int y), (4, .int z), (5, .int (nI k))]) rfl ?_
  have hb_ := (hgn g hl_j).2
  have hb2_ := (hgn h hm_j).2
  refine x_aload_n C (dk ddX10_whence 0 rfl) rfl ?_
  refine x_iload_n C (dk ddX10_whence 1 rfl) rfl ?_
  refine x_callV C (ci := 10) (As := [.int (nI j)]) (k_X10_isMap l D T o (d - 1) G I L a j hC (by omega) (by omega)) mlX10_218 rfl rfl (by have h_ := hC.1; omega) hC.fld.1 ⟨by show d - 1 + 1 ≤ d; omega, by show 40 * (d - 1 + 1) ≤ 40 * d; omega⟩ ⟨Nat.le_refl _, Nat.le_refl _⟩ rfl (Nat.le_of_ble_eq_true rfl) (dk ddX10_whence 2 rfl) ?_
  rintro v_ G_ I_ L_ ⟨rfl, rfl, rfl, rfl⟩
  rw [show (!decide (I (a + 1 + 4) j = -1)) = true from by rw [show I (a + 1 + 4) j = nI g from (by repeat (first | exact ax_u_at _ _ _ _ | exact hg_j | rw [ax_u_ne (by omega)] | rw [ax_u_nj (by decide)] | rw [ax_sc_ne (by omega)] | rw [ax_rem_ne (by omega) (by omega)] | unfold ax_ldI | unfold ax_woI | unfold ax_rxI | unfold ax_frI0 | unfold ax_frI1 | unfold ax_frI2 | rw [hI_ _ (by omega)] | rw [hN_ (by omega)]))]; exact ax_hm hl_j]
  refine x_if_eq_b C (tgt := 36) (dk ddX10_whence 3 rfl) (by decide) (fun h_ => absurd h_ (by decide)) (fun _ => ?_)
  refine x_iload_n C (dk ddX10_whence 4 rfl) rfl ?_
  refine x_iload_n C (dk ddX10_whence 5 rfl) rfl ?_
  refine x_iload C (dk ddX10_whence 6 rfl) rfl ?_
  refine x_callS C (As := [.int x, .int y, .int z]) (k_X10_isElement l D T o (d - 1) G I L x y z (by omega)) mlX10_156 ⟨by show d - 1 + 1 ≤ d; omega, by show 40 * (d - 1 + 1) ≤ 40 * d; omega⟩ ⟨Nat.le_refl _, Nat.le_refl _⟩ rfl (Nat.le_of_ble_eq_true rfl) (dk ddX10_whence 7 rfl) ?_
  rintro v_ G_ I_ L_ ⟨rfl, rfl, rfl, rfl⟩
  rw [show (ax_iw x.toInt64 (999 : Int32).toInt64 && ax_iw y.toInt64 (999 : Int32).toInt64 && ax_iw z.toInt64 (999 : Int32).toInt64) = true from he]
  refine x_if_eq_b C (tgt := 36) (dk ddX10_whence 8 rfl) (by decide) (fun h_ => absurd h_ (by decide)) (fun _ => ?_)
  refine x_aload_n C (dk ddX10_whence 9 rfl) rfl ?_
  refine x_aload_n C (dk ddX10_whence 10 rfl) rfl ?_
  refine x_getr C flX10_10 rfl (by have h_ := hC.1; omega) hC.fld.1 (show ax_R G a 0 = some (a + 1) from hC.fld.2.2 (0, 1) (by decide)) (dk ddX10_whence 11 rfl) ?_
  refine x_getr C flX10_221 rfl (by have h_ := hC.state.1; omega) (show ax_K G (a + 1) = 8 + 7 from (hC.state.2 0 _ rfl).1) (show ax_R G (a + 1) 3 = some (a + 1 + 4) from (hC.state.2 0 _ rfl).2.2 (3, 4) (by decide)) (dk ddX10_whence 12 rfl) ?_
  refine x_iload_n C (dk ddX10_whence 13 rfl) rfl ?_
  refine x_iald_n C (by have h_ := hC.state.1; omega) (show ax_K G (a + 1 + 4) = 0 from (hC.state.2 4 _ rfl).1) (show ax_N G (a + 1 + 4) = 8 from (hC.state.2 4 _ rfl).2.1) (by omega) (by decide) (dk ddX10_whence 14 rfl) ?_
  rw [show (I (a + 1 + 4) j) = nI g from (by repeat (first | exact ax_u_at _ _ _ _ | exact hg_j | rw [ax_u_ne (by omega)] | rw [ax_u_nj (by decide)] | rw [ax_sc_ne (by omega)] | rw [ax_rem_ne (by omega) (by omega)] | unfold ax_ldI | unfold ax_woI | unfold ax_rxI | unfold ax_frI0 | unfold ax_frI1 | unfold ax_frI2 | rw [hI_ _ (by omega)] | rw [hN_ (by omega)]))]
  refine x_iload C (dk ddX10_whence 15 rfl) rfl ?_
  refine x_callV C (ci := 10) (As := [.int (nI g), .int (nI k)]) (k_X10_isPlace l D T o (d - 1) G I L a g (nI k) hC (by omega) (by omega)) mlX10_145 rfl rfl (by have h_ := hC.1; omega) hC.fld.1 ⟨by show d - 1 + 1 ≤ d; omega, by show 40 * (d - 1 + 1) ≤ 40 * d; omega⟩ ⟨Nat.le_refl _, Nat.le_refl _⟩ rfl (Nat.le_of_ble_eq_true rfl) (dk ddX10_whence 16 rfl) ?_
  rintro v_ G_ I_ L_ ⟨rfl, rfl, rfl, rfl⟩
  rw [show (ax_rng (nI k) (I (a + 1 + 1) g)) = true from by rw [show I (a + 1 + 1) g = nI (gn g) from (by repeat (first | exact ax_u_at _ _ _ _ | exact (hgn g (by omega)).1 | rw [ax_u_ne (by omega)] | rw [ax_u_nj (by decide)] | rw [ax_sc_ne (by omega)] | rw [ax_rem_ne (by omega) (by omega)] | unfold ax_ldI | unfold ax_woI | unfold ax_rxI | unfold ax_frI0 | unfold ax_frI1 | unfold ax_frI2 | rw [hI_ _ (by omega)] | rw [hN_ (by omega)]))]; exact (ax_rng_ok hk (by have h_ := (hgn g (by omega)).2; omega))]
  refine x_if_ne_b C (tgt := 41) (dk ddX10_whence 17 rfl) (by decide) (fun _ => ?_) (fun h_ => absurd h_ (by decide))
  refine x_aload_n C (dk ddX10_whence 21 rfl) rfl ?_
  refine x_getr C flX10_59 rfl (by have h_ := hC.1; omega) hC.fld.1 (show ax_R G a 8 = some (a + 483) from hC.fld.2.2 (8, 483) (by decide)) (dk ddX10_whence 22 rfl) ?_
  refine x_aload_n C (dk ddX10_whence 23 rfl) rfl ?_
  refine x_getr C flX10_10 rfl (by have h_ := hC.1; omega) hC.fld.1 (show ax_R G a 0 = some (a + 1) from hC.fld.2.2 (0, 1) (by decide)) (dk ddX10_whence 24 rfl) ?_
  refine x_iload_n C (dk ddX10_whence 25 rfl) rfl ?_
  refine x_callV C (ci := 3) (As := [.ref (a + 1), .int (nI j)]) (k_X3_load l D T o (d - 1) G I L (a + 483) (a + 1) j g h (gn g) (gc g) (gn h) (gc h) hC.work hC.state (by omega) hf_j (by repeat (first | exact ax_u_at _ _ _ _ | exact hg_j | rw [ax_u_ne (by omega)] | rw [ax_u_nj (by decide)] | rw [ax_sc_ne (by omega)] | rw [ax_rem_ne (by omega) (by omega)] | unfold ax_ldI | unfold ax_woI | unfold ax_rxI | unfold ax_frI0 | unfold ax_frI1 | unfold ax_frI2 | rw [hI_ _ (by omega)] | rw [hN_ (by omega)])) hl_j (by repeat (first | exact ax_u_at _ _ _ _ | exact hh_j | rw [ax_u_ne (by omega)] | rw [ax_u_nj (by decide)] | rw [ax_sc_ne (by omega)] | rw [ax_rem_ne (by omega) (by omega)] | unfold ax_ldI | unfold ax_woI | unfold ax_rxI | unfold ax_frI0 | unfold ax_frI1 | unfold ax_frI2 | rw [hI_ _ (by omega)] | rw [hN_ (by omega)])) hm_j (by repeat (first | exact ax_u_at _ _ _ _ | exact (hgn g hl_j).1 | rw [ax_u_ne (by omega)] | rw [ax_u_nj (by decide)] | rw [ax_sc_ne (by omega)] | rw [ax_rem_ne (by omega) (by omega)] | unfold ax_ldI | unfold ax_woI | unfold ax_rxI | unfold ax_frI0 | unfold ax_frI1 | unfold ax_frI2 | rw [hI_ _ (by omega)] | rw [hN_ (by omega)])) (hgn g hl_j).2 (by repeat (first | exact ax_u_at _ _ _ _ | exact (hgc g hl_j).1 | rw [ax_u_ne (by omega)] | rw [ax_u_nj (by decide)] | rw [ax_sc_ne (by omega)] | rw [ax_rem_ne (by omega) (by omega)] | unfold ax_ldI | unfold ax_woI | unfold ax_rxI | unfold ax_frI0 | unfold ax_frI1 | unfold ax_frI2 | rw [hI_ _ (by omega)] | rw [hN_ (by omega)])) (hgc g hl_j).2 (by repeat (first | exact ax_u_at _ _ _ _ | exact (hgn h hm_j).1 | rw [ax_u_ne (by omega)] | rw [ax_u_nj (by decide)] | rw [ax_sc_ne (by omega)] | rw [ax_rem_ne (by omega) (by omega)] | unfold ax_ldI | unfold ax_woI | unfold ax_rxI | unfold ax_frI0 | unfold ax_frI1 | unfold ax_frI2 | rw [hI_ _ (by omega)] | rw [hN_ (by omega)])) (hgn h hm_j).2 (by repeat (first | exact ax_u_at _ _ _ _ | exact (hgc h hm_j).1 | rw [ax_u_ne (by omega)] | rw [ax_u_nj (by decide)] | rw [ax_sc_ne (by omega)] | rw [ax_rem_ne (by omega) (by omega)] | unfold ax_ldI | unfold ax_woI | unfold ax_rxI | unfold ax_frI0 | unfold ax_frI1 | unfold ax_frI2 | rw [hI_ _ (by omega)] | rw [hN_ (by omega)])) (hgc h hm_j).2 (by omega)) mlX10_227 rfl rfl (by have h_ := hC.work.1; omega) hC.work.fld.1 ⟨by show d - 1 + 1 ≤ d; omega, by show 40 * (d - 1 + 1) ≤ 40 * d; omega⟩ ⟨Nat.le_refl _, Nat.le_refl _⟩ rfl (Nat.le_of_ble_eq_true rfl) (dk ddX10_whence 26 rfl) ?_
  rintro v_ G_ I_ L_ ⟨rfl, rfl, rfl, rfl⟩
  rw [show (ax_ldv I L (a + 483) (a + 1) j g h (gn g) (gc g) (gn h) (gc h)) = false from hw]
  refine x_if_ne_b C (tgt := 62) (dk ddX10_whence 27 rfl) (by decide) (fun h_ => absurd h_ (by decide)) (fun _ => ?_)
  refine x_bipush C (v := (-4)) (dk ddX10_whence 28 rfl) (by decide) ?_
  refine x_callS C (As := [.int (-4)]) (k_X10_refused l D T o (d - 1) G (ax_ldI I (a + 483) (gn g) (gn h)) (ax_ldL I L (a + 483) (a + 1) j g h (gn g) (gc g) (gn h) (gc h)) (-4)) mlX10_160 ⟨by show d - 1 + 1 ≤ d; omega, by show 40 * (d - 1 + 1) ≤ 40 * d; omega⟩ ⟨Nat.le_refl _, Nat.le_refl _⟩ rfl (Nat.le_of_ble_eq_true rfl) (dk ddX10_whence 29 rfl) ?_
  rintro v_ G_ I_ L_ ⟨rfl, rfl, rfl, rfl⟩
  exact x_lret C rfl ⟨rfl, rfl, rfl, rfl⟩ rfl rfl (dk ddX10_whence 30 rfl)
def ax_whL (I : ax_I) (L : ax_L) (a : Nat) (j : Nat) (g : Nat) (h : Nat) (x : Int32) (y : Int32) (z : Int32) (gn : Nat → Nat) (gc : Nat → Nat) : ax_L := ax_gbL (ax_tl (a + 621) (gn h) x y z (ax_woL (ax_ldI I (a + 483) (gn g) (gn h)) (ax_ldL I L (a + 483) (a + 1) j g h (gn g) (gc g) (gn h) (gc h)) (a + 483) (a + 1) j (gn g) (gn h))) (a + 483) (a + 621) (gn g) (gn h)
def ax_whv (I : ax_I) (L : ax_L) (a : Nat) (j : Nat) (g : Nat) (h : Nat) (k : Nat) (x : Int32) (y : Int32) (z : Int32) (gn : Nat → Nat) (gc : Nat → Nat) : Int64 := if (ax_gbv (ax_tl (a + 621) (gn h) x y z (ax_woL (ax_ldI I (a + 483) (gn g) (gn h)) (ax_ldL I L (a + 483) (a + 1) j g h (gn g) (gc g) (gn h) (gc h)) (a + 483) (a + 1) j (gn g) (gn h))) (a + 483) (a + 621) (gn g) (gn h)) = true then (ax_gbL (ax_tl (a + 621) (gn h) x y z (ax_woL (ax_ldI I (a + 483) (gn g) (gn h)) (ax_ldL I L (a + 483) (a + 1) j g h (gn g) (gc g) (gn h) (gc h)) (a + 483) (a + 1) j (gn g) (gn h))) (a + 483) (a + 621) (gn g) (gn h)) (a + 621) k else (-4000000000000000000) + (-3).toInt64
set_option maxRecDepth 20000 in
/-- whence(j, x, y, z, k) -/
theorem k_X10_whence (l : Launch) (D : va_G) (T : Nat → ClassId) (o d : Nat) (G : ax_G) (I : ax_I) (L : ax_L) (a j g h k : Nat) (x y z : Int32) (gn gc : Nat → Nat) (hC : ax_Cls G a) (hgn : ∀ g, g < 6 → I (a + 1 + 1) g = nI (gn g) ∧ gn g ≤ 3) (hgc : ∀ g, g < 6 → I (a + 1 + 2) g = nI (gc g) ∧ gc g ≤ 4) (hf_j : j < 8) (hg_j : I (a + 1 + 4) j = nI g) (hl_j : g < 6) (hh_j : I (a + 1 + 5) j = nI h) (hm_j : h < 6) (he : (ax_iw x.toInt64 (999 : Int32).toInt64 && ax_iw y.toInt64 (999 : Int32).toInt64 && ax_iw z.toInt64 (999 : Int32).toInt64) = true) (hk : k < gn g) (hw : ax_ldv I L (a + 483) (a + 1) j g h (gn g) (gc g) (gn h) (gc h) = true) (hd : 7 ≤ d) : ax_Con l D T o yX10_whence cX10_whence 6 (some .long) d 0 0 [.ref a, .int (nI j), .int x, .int y, .int z, .int (nI k)] G I L (fun zz G' I' L' => zz = some (.long (ax_whv I L a j g h k x y z gn gc)) ∧ G = G' ∧ (ax_woI (ax_ldI I (a + 483) (gn g) (gn h)) (a + 483) (gn g) (gn h)) = I' ∧ (ax_whL I L a j g h x y z gn gc) = L') := by
  refine ax_enter (by decide +kernel) (Nat.le_of_ble_eq_true rfl) ?_
  intro p_ e_ s_ m_ args_ below_ meth_ c_ C _
  refine x_lvs (lv' := [(0, .ref a), (1, .int (nI j)), (2, .int x), (3, .int y), (4, .int z), (5, .int (nI k))]) rfl ?_
  have hb_ := (hgn g hl_j).2
  have hb2_ := (hgn h hm_j).2
  refine x_aload_n C (dk ddX10_whence 0 rfl) rfl ?_
  refine x_iload_n C (dk ddX10_whence 1 rfl) rfl ?_
  refine x_callV C (ci := 10) (As := [.int (nI j)]) (k_X10_isMap l D T o (d - 1) G I L a j hC (by omega) (by omega)) mlX10_218 rfl rfl (by have h_ := hC.1; omega) hC.fld.1 ⟨by show d - 1 + 1 ≤ d; omega, by show 40 * (d - 1 + 1) ≤ 40 * d; omega⟩ ⟨Nat.le_refl _, Nat.le_refl _⟩ rfl (Nat.le_of_ble_eq_true rfl) (dk ddX10_whence 2 rfl) ?_
  rintro v_ G_ I_ L_ ⟨rfl, rfl, rfl, rfl⟩
  rw [show (!decide (I (a + 1 + 4) j = -1)) = true from by rw [show I (a + 1 + 4) j = nI g from (by repeat (first | exact ax_u_at _ _ _ _ | exact hg_j | rw [ax_u_ne (by omega)] | rw [ax_u_nj (by decide)] | rw [ax_sc_ne (by omega)] | rw [ax_rem_ne (by omega) (by omega)] | unfold ax_ldI | unfold ax_woI | unfold ax_rxI | unfold ax_frI0 | unfold ax_frI1 | unfold ax_frI2 | rw [hI_ _ (by omega)] | rw [hN_ (by omega)]))]; exact ax_hm hl_j]
  refine x_if_eq_b C (tgt := 36) (dk ddX10_whence 3 rfl) (by decide) (fun h_ => absurd h_ (by decide)) (fun _ => ?_)
  refine x_iload_n C (dk ddX10_whence 4 rfl) rfl ?_
  refine x_iload_n C (dk ddX10_whence 5 rfl) rfl ?_
  refine x_iload C (dk ddX10_whence 6 rfl) rfl ?_
  refine x_callS C (As := [.int x, .int y, .int z]) (k_X10_isElement l D T o (d - 1) G I L x y z (by omega)) mlX10_156 ⟨by show d - 1 + 1 ≤ d; omega, by show 40 * (d - 1 + 1) ≤ 40 * d; omega⟩ ⟨Nat.le_refl _, Nat.le_refl _⟩ rfl (Nat.le_of_ble_eq_true rfl) (dk ddX10_whence 7 rfl) ?_
  rintro v_ G_ I_ L_ ⟨rfl, rfl, rfl, rfl⟩
  rw [show (ax_iw x.toInt64 (999 : Int32).toInt64 && ax_iw y.toInt64 (999 : Int32).toInt64 && ax_iw z.toInt64 (999 : Int32).toInt64) = true from he]
  refine x_if_eq_b C (tgt := 36) (dk ddX10_whence 8 rfl) (by decide) (fun h_ => absurd h_ (by decide)) (fun _ => ?_)
  refine x_aload_n C (dk ddX10_whence 9 rfl) rfl ?_
  refine x_aload_n C (dk ddX10_whence 10 rfl) rfl ?_
  refine x_getr C flX10_10 rfl (by have h_ := hC.1; omega) hC.fld.1 (show ax_R G a 0 = some (a + 1) from hC.fld.2.2 (0, 1) (by decide)) (dk ddX10_whence 11 rfl) ?_
  refine x_getr C flX10_221 rfl (by have h_ := hC.state.1; omega) (show ax_K G (a + 1) = 8 + 7 from (hC.state.2 0 _ rfl).1) (show ax_R G (a + 1) 3 = some (a + 1 + 4) from (hC.state.2 0 _ rfl).2.2 (3, 4) (by decide)) (dk ddX10_whence 12 rfl) ?_
  refine x_iload_n C (dk ddX10_whence 13 rfl) rfl ?_
  refine x_iald_n C (by have h_ := hC.state.1; omega) (show ax_K G (a + 1 + 4) = 0 from (hC.state.2 4 _ rfl).1) (show ax_N G (a + 1 + 4) = 8 from (hC.state.2 4 _ rfl).2.1) (by omega) (by decide) (dk ddX10_whence 14 rfl) ?_
  rw [show (I (a + 1 + 4) j) = nI g from (by repeat (first | exact ax_u_at _ _ _ _ | exact hg_j | rw [ax_u_ne (by omega)] | rw [ax_u_nj (by decide)] | rw [ax_sc_ne (by omega)] | rw [ax_rem_ne (by omega) (by omega)] | unfold ax_ldI | unfold ax_woI | unfold ax_rxI | unfold ax_frI0 | unfold ax_frI1 | unfold ax_frI2 | rw [hI_ _ (by omega)] | rw [hN_ (by omega)]))]
  refine x_iload C (dk ddX10_whence 15 rfl) rfl ?_
  refine x_callV C (ci := 10) (As := [.int (nI g), .int (nI k)]) (k_X10_isPlace l D T o (d - 1) G I L a g (nI k) hC (by omega) (by omega)) mlX10_145 rfl rfl (by have h_ := hC.1; omega) hC.fld.1 ⟨by show d - 1 + 1 ≤ d; omega, by show 40 * (d - 1 + 1) ≤ 40 * d; omega⟩ ⟨Nat.le_refl _, Nat.le_refl _⟩ rfl (Nat.le_of_ble_eq_true rfl) (dk ddX10_whence 16 rfl) ?_
  rintro v_ G_ I_ L_ ⟨rfl, rfl, rfl, rfl⟩
  rw [show (ax_rng (nI k) (I (a + 1 + 1) g)) = true from by rw [show I (a + 1 + 1) g = nI (gn g) from (by repeat (first | exact ax_u_at _ _ _ _ | exact (hgn g (by omega)).1 | rw [ax_u_ne (by omega)] | rw [ax_u_nj (by decide)] | rw [ax_sc_ne (by omega)] | rw [ax_rem_ne (by omega) (by omega)] | unfold ax_ldI | unfold ax_woI | unfold ax_rxI | unfold ax_frI0 | unfold ax_frI1 | unfold ax_frI2 | rw [hI_ _ (by omega)] | rw [hN_ (by omega)]))]; exact (ax_rng_ok hk (by have h_ := (hgn g (by omega)).2; omega))]
  refine x_if_ne_b C (tgt := 41) (dk ddX10_whence 17 rfl) (by decide) (fun _ => ?_) (fun h_ => absurd h_ (by decide))
  refine x_aload_n C (dk ddX10_whence 21 rfl) rfl ?_
  refine x_getr C flX10_59 rfl (by have h_ := hC.1; omega) hC.fld.1 (show ax_R G a 8 = some (a + 483) from hC.fld.2.2 (8, 483) (by decide)) (dk ddX10_whence 22 rfl) ?_
  refine x_aload_n C (dk ddX10_whence 23 rfl) rfl ?_
  refine x_getr C flX10_10 rfl (by have h_ := hC.1; omega) hC.fld.1 (show ax_R G a 0 = some (a + 1) from hC.fld.2.2 (0, 1) (by decide)) (dk ddX10_whence 24 rfl) ?_
  refine x_iload_n C (dk ddX10_whence 25 rfl) rfl ?_
  refine x_callV C (ci := 3) (As := [.ref (a + 1), .int (nI j)]) (k_X3_load l D T o (d - 1) G I L (a + 483) (a + 1) j g h (gn g) (gc g) (gn h) (gc h) hC.work hC.state (by omega) hf_j (by repeat (first | exact ax_u_at _ _ _ _ | exact hg_j | rw [ax_u_ne (by omega)] | rw [ax_u_nj (by decide)] | rw [ax_sc_ne (by omega)] | rw [ax_rem_ne (by omega) (by omega)] | unfold ax_ldI | unfold ax_woI | unfold ax_rxI | unfold ax_frI0 | unfold ax_frI1 | unfold ax_frI2 | rw [hI_ _ (by omega)] | rw [hN_ (by omega)])) hl_j (by repeat (first | exact ax_u_at _ _ _ _ | exact hh_j | rw [ax_u_ne (by omega)] | rw [ax_u_nj (by decide)] | rw [ax_sc_ne (by omega)] | rw [ax_rem_ne (by omega) (by omega)] | unfold ax_ldI | unfold ax_woI | unfold ax_rxI | unfold ax_frI0 | unfold ax_frI1 | unfold ax_frI2 | rw [hI_ _ (by omega)] | rw [hN_ (by omega)])) hm_j (by repeat (first | exact ax_u_at _ _ _ _ | exact (hgn g hl_j).1 | rw [ax_u_ne (by omega)] | rw [ax_u_nj (by decide)] | rw [ax_sc_ne (by omega)] | rw [ax_rem_ne (by omega) (by omega)] | unfold ax_ldI | unfold ax_woI | unfold ax_rxI | unfold ax_frI0 | unfold ax_frI1 | unfold ax_frI2 | rw [hI_ _ (by omega)] | rw [hN_ (by omega)])) (hgn g hl_j).2 (by repeat (first | exact ax_u_at _ _ _ _ | exact (hgc g hl_j).1 | rw [ax_u_ne (by omega)] | rw [ax_u_nj (by decide)] | rw [ax_sc_ne (by omega)] | rw [ax_rem_ne (by omega) (by omega)] | unfold ax_ldI | unfold ax_woI | unfold ax_rxI | unfold ax_frI0 | unfold ax_frI1 | unfold ax_frI2 | rw [hI_ _ (by omega)] | rw [hN_ (by omega)])) (hgc g hl_j).2 (by repeat (first | exact ax_u_at _ _ _ _ | exact (hgn h hm_j).1 | rw [ax_u_ne (by omega)] | rw [ax_u_nj (by decide)] | rw [ax_sc_ne (by omega)] | rw [ax_rem_ne (by omega) (by omega)] | unfold ax_ldI | unfold ax_woI | unfold ax_rxI | unfold ax_frI0 | unfold ax_frI1 | unfold ax_frI2 | rw [hI_ _ (by omega)] | rw [hN_ (by omega)])) (hgn h hm_j).2 (by repeat (first | exact ax_u_at _ _ _ _ | exact (hgc h hm_j).1 | rw [ax_u_ne (by omega)] | rw [ax_u_nj (by decide)] | rw [ax_sc_ne (by omega)] | rw [ax_rem_ne (by omega) (by omega)] | unfold ax_ldI | unfold ax_woI | unfold ax_rxI | unfold ax_frI0 | unfold ax_frI1 | unfold ax_frI2 | rw [hI_ _ (by omega)] | rw [hN_ (by omega)])) (hgc h hm_j).2 (by omega)) mlX10_227 rfl rfl (by have h_ := hC.work.1; omega) hC.work.fld.1 ⟨by show d - 1 + 1 ≤ d; omega, by show 40 * (d - 1 + 1) ≤ 40 * d; omega⟩ ⟨Nat.le_refl _, Nat.le_refl _⟩ rfl (Nat.le_of_ble_eq_true rfl) (dk ddX10_whence 26 rfl) ?_
  rintro v_ G_ I_ L_ ⟨rfl, rfl, rfl, rfl⟩
  rw [show (ax_ldv I L (a + 483) (a + 1) j g h (gn g) (gc g) (gn h) (gc h)) = true from hw]
  refine x_if_ne_b C (tgt := 62) (dk ddX10_whence 27 rfl) (by decide) (fun _ => ?_) (fun h_ => absurd h_ (by decide))
  refine x_aload_n C (dk ddX10_whence 31 rfl) rfl ?_
  refine x_getr C flX10_59 rfl (by have h_ := hC.1; omega) hC.fld.1 (show ax_R G a 8 = some (a + 483) from hC.fld.2.2 (8, 483) (by decide)) (dk ddX10_whence 32 rfl) ?_
  refine x_aload_n C (dk ddX10_whence 33 rfl) rfl ?_
  refine x_getr C flX10_10 rfl (by have h_ := hC.1; omega) hC.fld.1 (show ax_R G a 0 = some (a + 1) from hC.fld.2.2 (0, 1) (by decide)) (dk ddX10_whence 34 rfl) ?_
  refine x_iload_n C (dk ddX10_whence 35 rfl) rfl ?_
  refine x_callV C (ci := 3) (As := [.ref (a + 1), .int (nI j)]) (k_X3_workOut l D T o (d - 1) G (ax_ldI I (a + 483) (gn g) (gn h)) (ax_ldL I L (a + 483) (a + 1) j g h (gn g) (gc g) (gn h) (gc h)) (a + 483) (a + 1) j (gn g) (gn h) hC.work hC.state (by omega) hf_j (by repeat (first | exact ax_u_at _ _ _ _ | rw [ax_u_ne (by omega)] | rw [ax_u_nj (by decide)] | rw [ax_sc_ne (by omega)] | rw [ax_rem_ne (by omega) (by omega)] | unfold ax_ldI | unfold ax_woI | unfold ax_rxI | unfold ax_frI0 | unfold ax_frI1 | unfold ax_frI2 | rw [hI_ _ (by omega)] | rw [hN_ (by omega)])) (hgn g hl_j).2 (by repeat (first | exact ax_u_at _ _ _ _ | rw [ax_u_ne (by omega)] | rw [ax_u_nj (by decide)] | rw [ax_sc_ne (by omega)] | rw [ax_rem_ne (by omega) (by omega)] | unfold ax_ldI | unfold ax_woI | unfold ax_rxI | unfold ax_frI0 | unfold ax_frI1 | unfold ax_frI2 | rw [hI_ _ (by omega)] | rw [hN_ (by omega)])) (hgn h hm_j).2 (by omega)) mlX10_231 rfl rfl (by have h_ := hC.work.1; omega) hC.work.fld.1 ⟨by show d - 1 + 1 ≤ d; omega, by show 40 * (d - 1 + 1) ≤ 40 * d; omega⟩ ⟨Nat.le_refl _, Nat.le_refl _⟩ rfl (Nat.le_of_ble_eq_true rfl) (dk ddX10_whence 36 rfl) ?_
  rintro v_ G_ I_ L_ ⟨rfl, rfl, rfl, rfl⟩
  refine x_aload_n C (dk ddX10_whence 37 rfl) rfl ?_
  refine x_aload_n C (dk ddX10_whence 38 rfl) rfl ?_
  refine x_getr C flX10_10 rfl (by have h_ := hC.1; omega) hC.fld.1 (show ax_R G a 0 = some (a + 1) from hC.fld.2.2 (0, 1) (by decide)) (dk ddX10_whence 39 rfl) ?_
  refine x_getr C flX10_224 rfl (by have h_ := hC.state.1; omega) (show ax_K G (a + 1) = 8 + 7 from (hC.state.2 0 _ rfl).1) (show ax_R G (a + 1) 4 = some (a + 1 + 5) from (hC.state.2 0 _ rfl).2.2 (4, 5) (by decide)) (dk ddX10_whence 40 rfl) ?_
  refine x_iload_n C (dk ddX10_whence 41 rfl) rfl ?_
  refine x_iald_n C (by have h_ := hC.state.1; omega) (show ax_K G (a + 1 + 5) = 0 from (hC.state.2 5 _ rfl).1) (show ax_N G (a + 1 + 5) = 8 from (hC.state.2 5 _ rfl).2.1) (by omega) (by decide) (dk ddX10_whence 42 rfl) ?_
  rw [show ((ax_woI (ax_ldI I (a + 483) (gn g) (gn h)) (a + 483) (gn g) (gn h)) (a + 1 + 5) j) = nI h from (by repeat (first | exact ax_u_at _ _ _ _ | exact hh_j | rw [ax_u_ne (by omega)] | rw [ax_u_nj (by decide)] | rw [ax_sc_ne (by omega)] | rw [ax_rem_ne (by omega) (by omega)] | unfold ax_ldI | unfold ax_woI | unfold ax_rxI | unfold ax_frI0 | unfold ax_frI1 | unfold ax_frI2 | rw [hI_ _ (by omega)] | rw [hN_ (by omega)]))]
  refine x_iload_n C (dk ddX10_whence 43 rfl) rfl ?_
  refine x_iload_n C (dk ddX10_whence 44 rfl) rfl ?_
  refine x_iload C (dk ddX10_whence 45 rfl) rfl ?_
  refine x_callV C (ci := 10) (As := [.int (nI h), .int x, .int y, .int z]) (k_X10_tell l D T o (d - 1) G (ax_woI (ax_ldI I (a + 483) (gn g) (gn h)) (a + 483) (gn g) (gn h)) (ax_woL (ax_ldI I (a + 483) (gn g) (gn h)) (ax_ldL I L (a + 483) (a + 1) j g h (gn g) (gc g) (gn h) (gc h)) (a + 483) (a + 1) j (gn g) (gn h)) a h (gn h) x y z hC (by omega) (by repeat (first | exact ax_u_at _ _ _ _ | exact (hgn h (by omega)).1 | rw [ax_u_ne (by omega)] | rw [ax_u_nj (by decide)] | rw [ax_sc_ne (by omega)] | rw [ax_rem_ne (by omega) (by omega)] | unfold ax_ldI | unfold ax_woI | unfold ax_rxI | unfold ax_frI0 | unfold ax_frI1 | unfold ax_frI2 | rw [hI_ _ (by omega)] | rw [hN_ (by omega)])) (hgn h (by omega)).2 (by omega)) mlX10_121 rfl rfl (by have h_ := hC.1; omega) hC.fld.1 ⟨by show d - 1 + 1 ≤ d; omega, by show 40 * (d - 1 + 1) ≤ 40 * d; omega⟩ ⟨Nat.le_refl _, Nat.le_refl _⟩ rfl (Nat.le_of_ble_eq_true rfl) (dk ddX10_whence 46 rfl) ?_
  rintro v_ G_ I_ L_ ⟨rfl, rfl, rfl, rfl⟩
  refine x_aload_n C (dk ddX10_whence 47 rfl) rfl ?_
  refine x_getr C flX10_59 rfl (by have h_ := hC.1; omega) hC.fld.1 (show ax_R G a 8 = some (a + 483) from hC.fld.2.2 (8, 483) (by decide)) (dk ddX10_whence 48 rfl) ?_
  refine x_aload_n C (dk ddX10_whence 49 rfl) rfl ?_
  refine x_getr C flX10_89 rfl (by have h_ := hC.1; omega) hC.fld.1 (show ax_R G a 15 = some (a + 621) from hC.fld.2.2 (15, 621) (by decide)) (dk ddX10_whence 50 rfl) ?_
  refine x_callV C (ci := 3) (As := [.ref (a + 621)]) (k_X3_goBack l D T o (d - 1) G (ax_woI (ax_ldI I (a + 483) (gn g) (gn h)) (a + 483) (gn g) (gn h)) (ax_tl (a + 621) (gn h) x y z (ax_woL (ax_ldI I (a + 483) (gn g) (gn h)) (ax_ldL I L (a + 483) (a + 1) j g h (gn g) (gc g) (gn h) (gc h)) (a + 483) (a + 1) j (gn g) (gn h))) (a + 483) (a + 621) (gn g) (gn h) hC.work ⟨hC.row.1, hC.row.2.1, hC.row.2.2⟩ (by omega) (by repeat (first | exact ax_u_at _ _ _ _ | rw [ax_u_ne (by omega)] | rw [ax_u_nj (by decide)] | rw [ax_sc_ne (by omega)] | rw [ax_rem_ne (by omega) (by omega)] | unfold ax_ldI | unfold ax_woI | unfold ax_rxI | unfold ax_frI0 | unfold ax_frI1 | unfold ax_frI2 | rw [hI_ _ (by omega)] | rw [hN_ (by omega)])) (hgn g (by omega)).2 (by repeat (first | exact ax_u_at _ _ _ _ | rw [ax_u_ne (by omega)] | rw [ax_u_nj (by decide)] | rw [ax_sc_ne (by omega)] | rw [ax_rem_ne (by omega) (by omega)] | unfold ax_ldI | unfold ax_woI | unfold ax_rxI | unfold ax_frI0 | unfold ax_frI1 | unfold ax_frI2 | rw [hI_ _ (by omega)] | rw [hN_ (by omega)])) (hgn h (by omega)).2 (by repeat (first | exact ax_u_at _ _ _ _ | rw [ax_u_ne (by omega)] | rw [ax_u_nj (by decide)] | rw [ax_sc_ne (by omega)] | rw [ax_rem_ne (by omega) (by omega)] | unfold ax_ldI | unfold ax_woI | unfold ax_rxI | unfold ax_frI0 | unfold ax_frI1 | unfold ax_frI2 | rw [hI_ _ (by omega)] | rw [hN_ (by omega)])) (by refine Eq.trans (b := nI ((gn h) + (gn g) - (gn h))) ?_ (congrArg nI (Nat.add_sub_cancel_left ..)); exact (by repeat (first | exact ax_u_at _ _ _ _ | rw [ax_u_ne (by omega)] | rw [ax_u_nj (by decide)] | rw [ax_sc_ne (by omega)] | rw [ax_rem_ne (by omega) (by omega)] | unfold ax_ldI | unfold ax_woI | unfold ax_rxI | unfold ax_frI0 | unfold ax_frI1 | unfold ax_frI2 | rw [hI_ _ (by omega)] | rw [hN_ (by omega)]))) (by omega)) mlX10_252 rfl rfl (by have h_ := hC.work.1; omega) hC.work.fld.1 ⟨by show d - 1 + 1 ≤ d; omega, by show 40 * (d - 1 + 1) ≤ 40 * d; omega⟩ ⟨Nat.le_refl _, Nat.le_refl _⟩ rfl (Nat.le_of_ble_eq_true rfl) (dk ddX10_whence 51 rfl) ?_
  rintro v_ G_ I_ L_ ⟨rfl, rfl, rfl, rfl⟩
  refine x_if_ne_b C (tgt := 111) (dk ddX10_whence 52 rfl) (by decide) (fun h102 => ?_) (fun h102 => ?_)
  · refine x_aload_n C (dk ddX10_whence 56 rfl) rfl ?_
    refine x_getr C flX10_89 rfl (by have h_ := hC.1; omega) hC.fld.1 (show ax_R G a 15 = some (a + 621) from hC.fld.2.2 (15, 621) (by decide)) (dk ddX10_whence 57 rfl) ?_
    refine x_iload C (dk ddX10_whence 58 rfl) rfl ?_
    refine x_lald_n C hC.row.1 hC.row.2.1 hC.row.2.2 (by omega) (by decide) (dk ddX10_whence 59 rfl) ?_
    exact x_lret C rfl ⟨(by unfold ax_whv; rw [if_pos h102] <;> rfl), rfl, rfl, rfl⟩ rfl rfl (dk ddX10_whence 60 rfl)
  · refine x_bipush C (v := (-3)) (dk ddX10_whence 53 rfl) (by decide) ?_
    refine x_callS C (As := [.int (-3)]) (k_X10_refused l D T o (d - 1) G (ax_woI (ax_ldI I (a + 483) (gn g) (gn h)) (a + 483) (gn g) (gn h)) (ax_gbL (ax_tl (a + 621) (gn h) x y z (ax_woL (ax_ldI I (a + 483) (gn g) (gn h)) (ax_ldL I L (a + 483) (a + 1) j g h (gn g) (gc g) (gn h) (gc h)) (a + 483) (a + 1) j (gn g) (gn h))) (a + 483) (a + 621) (gn g) (gn h)) (-3)) mlX10_160 ⟨by show d - 1 + 1 ≤ d; omega, by show 40 * (d - 1 + 1) ≤ 40 * d; omega⟩ ⟨Nat.le_refl _, Nat.le_refl _⟩ rfl (Nat.le_of_ble_eq_true rfl) (dk ddX10_whence 54 rfl) ?_
    rintro v_ G_ I_ L_ ⟨rfl, rfl, rfl, rfl⟩
    exact x_lret C rfl ⟨(by unfold ax_whv; rw [if_neg (Bool.eq_false_iff.mp h102)] <;> rfl), rfl, rfl, rfl⟩ rfl rfl (dk ddX10_whence 55 rfl)
set_option maxRecDepth 20000 in
/-- part, refused -/
theorem k_X10_part_bad (l : Launch) (D : va_G) (T : Nat → ClassId) (o d : Nat) (G : ax_G) (I : ax_I) (L : ax_L) (a : Nat) (f u k : Int32) (hC : ax_Cls G a) (hbad : (ax_in3 f.toInt64 0 7 && !decide (I (a + 1 + 4) f.toNatClampNeg = -1)) = false ∨ u < 0 ∨ nI 2 < u ∨ k < -1) (hd : 3 ≤ d) : ax_Con l D T o yX10_part cX10_part 4 (some .int) d 0 0 [.ref a, .int f, .int u, .int k] G I L (fun zz G' I' L' => zz = some (.int ((-1))) ∧ G = G' ∧ I = I' ∧ L = L') := by
  refine ax_enter (by decide +kernel) (Nat.le_of_ble_eq_true rfl) ?_
  intro p_ e_ s_ m_ args_ below_ meth_ c_ C _
  refine x_lvs (lv' := [(0, .ref a), (1, .int f), (2, .int u), (3, .int k)]) rfl ?_
  refine x_aload_n C (dk ddX10_part 0 rfl) rfl ?_
  refine x_iload_n C (dk ddX10_part 1 rfl) rfl ?_
  refine x_callV C (ci := 10) (As := [.int f]) (k_X10_isMapI l D T o (d - 1) G I L a f hC (by omega)) mlX10_218 rfl rfl (by have h_ := hC.1; omega) hC.fld.1 ⟨by show d - 1 + 1 ≤ d; omega, by show 40 * (d - 1 + 1) ≤ 40 * d; omega⟩ ⟨Nat.le_refl _, Nat.le_refl _⟩ rfl (Nat.le_of_ble_eq_true rfl) (dk ddX10_part 2 rfl) ?_
  rintro v_ G_ I_ L_ ⟨rfl, rfl, rfl, rfl⟩
  refine x_if_eq_b C (tgt := 22) (dk ddX10_part 3 rfl) (by decide) (fun h5 => ?_) (fun h5 => ?_)
  · refine x_iconst C (v := (-1)) (dk ddX10_part 12 rfl) (by decide) ?_
    exact x_iret C rfl ⟨rfl, rfl, rfl, rfl⟩ rfl rfl (dk ddX10_part 13 rfl)
  · refine x_iload_n C (dk ddX10_part 4 rfl) rfl ?_
    refine x_if_lt C (tgt := 22) (dk ddX10_part 5 rfl) (by decide) (fun h9 => ?_) (fun h9 => ?_)
    · have h9c := Int32.not_le.mpr h9
      refine x_iconst C (v := (-1)) (dk ddX10_part 12 rfl) (by decide) ?_
      exact x_iret C rfl ⟨rfl, rfl, rfl, rfl⟩ rfl rfl (dk ddX10_part 13 rfl)
    · have h9c := Int32.not_lt.mp h9
      refine x_iload_n C (dk ddX10_part 6 rfl) rfl ?_
      refine x_iconst C (v := nI 2) (dk ddX10_part 7 rfl) (by decide) ?_
      refine x_icmp_gt C (tgt := 22) (dk ddX10_part 8 rfl) (by decide) (fun h14 => ?_) (fun h14 => ?_)
      · have h14c := Int32.not_le.mpr h14
        refine x_iconst C (v := (-1)) (dk ddX10_part 12 rfl) (by decide) ?_
        exact x_iret C rfl ⟨rfl, rfl, rfl, rfl⟩ rfl rfl (dk ddX10_part 13 rfl)
      · have h14c := Int32.not_lt.mp h14
        refine x_iload_n C (dk ddX10_part 9 rfl) rfl ?_
        refine x_iconst C (v := (-1)) (dk ddX10_part 10 rfl) (by decide) ?_
        refine x_icmp_ge C (tgt := 24) (dk ddX10_part 11 rfl) (by decide) (fun h19 => ?_) (fun h19 => ?_)
        · have h19c := Int32.not_lt.mpr h19
          exfalso
          rcases hbad with hq_ | hq_ | hq_ | hq_ <;> first | exact absurd hq_ (by assumption) | (simp_all; done)
        · have h19c := Int32.not_le.mp h19
          refine x_iconst C (v := (-1)) (dk ddX10_part 12 rfl) (by decide) ?_
          exact x_iret C rfl ⟨rfl, rfl, rfl, rfl⟩ rfl rfl (dk ddX10_part 13 rfl)
set_option maxRecDepth 20000 in
/-- part, not well -/
theorem k_X10_part_no_many (l : Launch) (D : va_G) (T : Nat → ClassId) (o d : Nat) (G : ax_G) (I : ax_I) (L : ax_L) (a j g h u : Nat) (gn gc : Nat → Nat) (hC : ax_Cls G a) (hgn : ∀ g, g < 6 → I (a + 1 + 1) g = nI (gn g) ∧ gn g ≤ 3) (hgc : ∀ g, g < 6 → I (a + 1 + 2) g = nI (gc g) ∧ gc g ≤ 4) (hf_j : j < 8) (hg_j : I (a + 1 + 4) j = nI g) (hl_j : g < 6) (hh_j : I (a + 1 + 5) j = nI h) (hm_j : h < 6) (hu : u ≤ 2) (hw : ax_ldv I L (a + 483) (a + 1) j g h (gn g) (gc g) (gn h) (gc h) = false) (hd : 8 ≤ d) : ax_Con l D T o yX10_part cX10_part 4 (some .int) d 0 0 [.ref a, .int (nI j), .int (nI u), .int (-1)] G I L (fun zz G' I' L' => zz = some (.int ((-4))) ∧ G = G' ∧ (ax_ldI I (a + 483) (gn g) (gn h)) = I' ∧ (ax_ldL I L (a + 483) (a + 1) j g h (gn g) (gc g) (gn h) (gc h)) = L') := by
  refine ax_enter (by decide +kernel) (Nat.le_of_ble_eq_true rfl) ?_
  intro p_ e_ s_ m_ args_ below_ meth_ c_ C _
  refine x_lvs (lv' := [(0, .ref a), (1, .int (nI j)), (2, .int (nI u)), (3, .int (-1))]) rfl ?_
  have hb_ := (hgn g hl_j).2
  have hb2_ := (hgn h hm_j).2
  refine x_aload_n C (dk ddX10_part 0 rfl) rfl ?_
  refine x_iload_n C (dk ddX10_part 1 rfl) rfl ?_
  refine x_callV C (ci := 10) (As := [.int (nI j)]) (k_X10_isMap l D T o (d - 1) G I L a j hC (by omega) (by omega)) mlX10_218 rfl rfl (by have h_ := hC.1; omega) hC.fld.1 ⟨by show d - 1 + 1 ≤ d; omega, by show 40 * (d - 1 + 1) ≤ 40 * d; omega⟩ ⟨Nat.le_refl _, Nat.le_refl _⟩ rfl (Nat.le_of_ble_eq_true rfl) (dk ddX10_part 2 rfl) ?_
  rintro v_ G_ I_ L_ ⟨rfl, rfl, rfl, rfl⟩
  rw [show (!decide (I (a + 1 + 4) j = -1)) = true from by rw [show I (a + 1 + 4) j = nI g from (by repeat (first | exact ax_u_at _ _ _ _ | exact hg_j | rw [ax_u_ne (by omega)] | rw [ax_u_nj (by decide)] | rw [ax_sc_ne (by omega)] | rw [ax_rem_ne (by omega) (by omega)] | unfold ax_ldI | unfold ax_woI | unfold ax_rxI | unfold ax_frI0 | unfold ax_frI1 | unfold ax_frI2 | rw [hI_ _ (by omega)] | rw [hN_ (by omega)]))]; exact ax_hm hl_j]
  refine x_if_eq_b C (tgt := 22) (dk ddX10_part 3 rfl) (by decide) (fun h_ => absurd h_ (by decide)) (fun _ => ?_)
  refine x_iload_n C (dk ddX10_part 4 rfl) rfl ?_
  refine x_if_lt_n C (tgt := 22) (dk ddX10_part 5 rfl) (by decide) (by omega) (fun h9 => ?_) (fun h9 => ?_)
  · exfalso
    omega
  · refine x_iload_n C (dk ddX10_part 6 rfl) rfl ?_
    refine x_iconst C (v := nI 2) (dk ddX10_part 7 rfl) (by decide) ?_
    refine x_icmp_gt_n C (tgt := 22) (dk ddX10_part 8 rfl) (by decide) (by omega) (by decide) (fun h14 => ?_) (fun h14 => ?_)
    · exfalso
      omega
    · refine x_iload_n C (dk ddX10_part 9 rfl) rfl ?_
      refine x_iconst C (v := (-1)) (dk ddX10_part 10 rfl) (by decide) ?_
      refine x_icmp_ge C (tgt := 24) (dk ddX10_part 11 rfl) (by decide) (fun _ => ?_) (fun h_ => absurd h_ (by decide))
      refine x_aload_n C (dk ddX10_part 14 rfl) rfl ?_
      refine x_getr C flX10_59 rfl (by have h_ := hC.1; omega) hC.fld.1 (show ax_R G a 8 = some (a + 483) from hC.fld.2.2 (8, 483) (by decide)) (dk ddX10_part 15 rfl) ?_
      refine x_aload_n C (dk ddX10_part 16 rfl) rfl ?_
      refine x_getr C flX10_10 rfl (by have h_ := hC.1; omega) hC.fld.1 (show ax_R G a 0 = some (a + 1) from hC.fld.2.2 (0, 1) (by decide)) (dk ddX10_part 17 rfl) ?_
      refine x_iload_n C (dk ddX10_part 18 rfl) rfl ?_
      refine x_callV C (ci := 3) (As := [.ref (a + 1), .int (nI j)]) (k_X3_load l D T o (d - 1) G I L (a + 483) (a + 1) j g h (gn g) (gc g) (gn h) (gc h) hC.work hC.state (by omega) hf_j (by repeat (first | exact ax_u_at _ _ _ _ | exact hg_j | rw [ax_u_ne (by omega)] | rw [ax_u_nj (by decide)] | rw [ax_sc_ne (by omega)] | rw [ax_rem_ne (by omega) (by omega)] | unfold ax_ldI | unfold ax_woI | unfold ax_rxI | unfold ax_frI0 | unfold ax_frI1 | unfold ax_frI2 | rw [hI_ _ (by omega)] | rw [hN_ (by omega)])) hl_j (by repeat (first | exact ax_u_at _ _ _ _ | exact hh_j | rw [ax_u_ne (by omega)] | rw [ax_u_nj (by decide)] | rw [ax_sc_ne (by omega)] | rw [ax_rem_ne (by omega) (by omega)] | unfold ax_ldI | unfold ax_woI | unfold ax_rxI | unfold ax_frI0 | unfold ax_frI1 | unfold ax_frI2 | rw [hI_ _ (by omega)] | rw [hN_ (by omega)])) hm_j (by repeat (first | exact ax_u_at _ _ _ _ | exact (hgn g hl_j).1 | rw [ax_u_ne (by omega)] | rw [ax_u_nj (by decide)] | rw [ax_sc_ne (by omega)] | rw [ax_rem_ne (by omega) (by omega)] | unfold ax_ldI | unfold ax_woI | unfold ax_rxI | unfold ax_frI0 | unfold ax_frI1 | unfold ax_frI2 | rw [hI_ _ (by omega)] | rw [hN_ (by omega)])) (hgn g hl_j).2 (by repeat (first | exact ax_u_at _ _ _ _ | exact (hgc g hl_j).1 | rw [ax_u_ne (by omega)] | rw [ax_u_nj (by decide)] | rw [ax_sc_ne (by omega)] | rw [ax_rem_ne (by omega) (by omega)] | unfold ax_ldI | unfold ax_woI | unfold ax_rxI | unfold ax_frI0 | unfold ax_frI1 | unfold ax_frI2 | rw [hI_ _ (by omega)] | rw [hN_ (by omega)])) (hgc g hl_j).2 (by repeat (first | exact ax_u_at _ _ _ _ | exact (hgn h hm_j).1 | rw [ax_u_ne (by omega)] | rw [ax_u_nj (by decide)] | rw [ax_sc_ne (by omega)] | rw [ax_rem_ne (by omega) (by omega)] | unfold ax_ldI | unfold ax_woI | unfold ax_rxI | unfold ax_frI0 | unfold ax_frI1 | unfold ax_frI2 | rw [hI_ _ (by omega)] | rw [hN_ (by omega)])) (hgn h hm_j).2 (by repeat (first | exact ax_u_at _ _ _ _ | exact (hgc h hm_j).1 | rw [ax_u_ne (by omega)] | rw [ax_u_nj (by decide)] | rw [ax_sc_ne (by omega)] | rw [ax_rem_ne (by omega) (by omega)] | unfold ax_ldI | unfold ax_woI | unfold ax_rxI | unfold ax_frI0 | unfold ax_frI1 | unfold ax_frI2 | rw [hI_ _ (by omega)] | rw [hN_ (by omega)])) (hgc h hm_j).2 (by omega)) mlX10_227 rfl rfl (by have h_ := hC.work.1; omega) hC.work.fld.1 ⟨by show d - 1 + 1 ≤ d; omega, by show 40 * (d - 1 + 1) ≤ 40 * d; omega⟩ ⟨Nat.le_refl _, Nat.le_refl _⟩ rfl (Nat.le_of_ble_eq_true rfl) (dk ddX10_part 19 rfl) ?_
      rintro v_ G_ I_ L_ ⟨rfl, rfl, rfl, rfl⟩
      rw [show (ax_ldv I L (a + 483) (a + 1) j g h (gn g) (gc g) (gn h) (gc h)) = false from hw]
      refine x_if_ne_b C (tgt := 42) (dk ddX10_part 20 rfl) (by decide) (fun h_ => absurd h_ (by decide)) (fun _ => ?_)
      refine x_bipush C (v := (-4)) (dk ddX10_part 21 rfl) (by decide) ?_
      exact x_iret C rfl ⟨rfl, rfl, rfl, rfl⟩ rfl rfl (dk ddX10_part 22 rfl)
def ax_paI0_many (I : ax_I) (L : ax_L) (a : Nat) (j : Nat) (g : Nat) (h : Nat) (gn : Nat → Nat) (gc : Nat → Nat) : ax_I := ax_frI0 (ax_woI (ax_ldI I (a + 483) (gn g) (gn h)) (a + 483) (gn g) (gn h)) (ax_woL (ax_ldI I (a + 483) (gn g) (gn h)) (ax_ldL I L (a + 483) (a + 1) j g h (gn g) (gc g) (gn h) (gc h)) (a + 483) (a + 1) j (gn g) (gn h)) (a + 483) (a + 615) (gn g)
def ax_paL0_many (I : ax_I) (L : ax_L) (a : Nat) (j : Nat) (g : Nat) (h : Nat) (gn : Nat → Nat) (gc : Nat → Nat) : ax_L := ax_frL0 (ax_woL (ax_ldI I (a + 483) (gn g) (gn h)) (ax_ldL I L (a + 483) (a + 1) j g h (gn g) (gc g) (gn h) (gc h)) (a + 483) (a + 1) j (gn g) (gn h)) (a + 483) (a + 616) (gn g)
def ax_pav0_many (I : ax_I) (L : ax_L) (a : Nat) (j : Nat) (g : Nat) (h : Nat) (gn : Nat → Nat) (gc : Nat → Nat) : Int32 := nI (ax_cn ((ax_frL0 (ax_woL (ax_ldI I (a + 483) (gn g) (gn h)) (ax_ldL I L (a + 483) (a + 1) j g h (gn g) (gc g) (gn h) (gc h)) (a + 483) (a + 1) j (gn g) (gn h)) (a + 483) (a + 616) (gn g)) (a + 616)) (ax_rkc (a + 483 + 28) (ax_woL (ax_ldI I (a + 483) (gn g) (gn h)) (ax_ldL I L (a + 483) (a + 1) j g h (gn g) (gc g) (gn h) (gc h)) (a + 483) (a + 1) j (gn g) (gn h)) (gn g)))
set_option maxRecDepth 20000 in
/-- part(j, 0, ..) -/
theorem k_X10_part_0_many (l : Launch) (D : va_G) (T : Nat → ClassId) (o d : Nat) (G : ax_G) (I : ax_I) (L : ax_L) (a j g h : Nat) (gn gc : Nat → Nat) (hC : ax_Cls G a) (hgn : ∀ g, g < 6 → I (a + 1 + 1) g = nI (gn g) ∧ gn g ≤ 3) (hgc : ∀ g, g < 6 → I (a + 1 + 2) g = nI (gc g) ∧ gc g ≤ 4) (hf_j : j < 8) (hg_j : I (a + 1 + 4) j = nI g) (hl_j : g < 6) (hh_j : I (a + 1 + 5) j = nI h) (hm_j : h < 6) (hw : ax_ldv I L (a + 483) (a + 1) j g h (gn g) (gc g) (gn h) (gc h) = true) (hd : 8 ≤ d) : ax_Con l D T o yX10_part cX10_part 4 (some .int) d 0 0 [.ref a, .int (nI j), .int (nI 0), .int (-1)] G I L (fun zz G' I' L' => zz = some (.int (ax_pav0_many I L a j g h gn gc)) ∧ G = G' ∧ (ax_paI0_many I L a j g h gn gc) = I' ∧ (ax_paL0_many I L a j g h gn gc) = L') := by
  refine ax_enter (by decide +kernel) (Nat.le_of_ble_eq_true rfl) ?_
  intro p_ e_ s_ m_ args_ below_ meth_ c_ C _
  refine x_lvs (lv' := [(0, .ref a), (1, .int (nI j)), (2, .int (nI 0)), (3, .int (-1))]) rfl ?_
  have hb_ := (hgn g hl_j).2
  have hb2_ := (hgn h hm_j).2
  refine x_aload_n C (dk ddX10_part 0 rfl) rfl ?_
  refine x_iload_n C (dk ddX10_part 1 rfl) rfl ?_
  refine x_callV C (ci := 10) (As := [.int (nI j)]) (k_X10_isMap l D T o (d - 1) G I L a j hC (by omega) (by omega)) mlX10_218 rfl rfl (by have h_ := hC.1; omega) hC.fld.1 ⟨by show d - 1 + 1 ≤ d; omega, by show 40 * (d - 1 + 1) ≤ 40 * d; omega⟩ ⟨Nat.le_refl _, Nat.le_refl _⟩ rfl (Nat.le_of_ble_eq_true rfl) (dk ddX10_part 2 rfl) ?_
  rintro v_ G_ I_ L_ ⟨rfl, rfl, rfl, rfl⟩
  rw [show (!decide (I (a + 1 + 4) j = -1)) = true from by rw [show I (a + 1 + 4) j = nI g from (by repeat (first | exact ax_u_at _ _ _ _ | exact hg_j | rw [ax_u_ne (by omega)] | rw [ax_u_nj (by decide)] | rw [ax_sc_ne (by omega)] | rw [ax_rem_ne (by omega) (by omega)] | unfold ax_ldI | unfold ax_woI | unfold ax_rxI | unfold ax_frI0 | unfold ax_frI1 | unfold ax_frI2 | rw [hI_ _ (by omega)] | rw [hN_ (by omega)]))]; exact ax_hm hl_j]
  refine x_if_eq_b C (tgt := 22) (dk ddX10_part 3 rfl) (by decide) (fun h_ => absurd h_ (by decide)) (fun _ => ?_)
  refine x_iload_n C (dk ddX10_part 4 rfl) rfl ?_
  refine x_if_lt_n C (tgt := 22) (dk ddX10_part 5 rfl) (by decide) (by decide) (fun h_ => absurd h_ (by decide)) (fun _ => ?_)
  refine x_iload_n C (dk ddX10_part 6 rfl) rfl ?_
  refine x_iconst C (v := nI 2) (dk ddX10_part 7 rfl) (by decide) ?_
  refine x_icmp_gt_n C (tgt := 22) (dk ddX10_part 8 rfl) (by decide) (by decide) (by decide) (fun h_ => absurd h_ (by decide)) (fun _ => ?_)
  refine x_iload_n C (dk ddX10_part 9 rfl) rfl ?_
  refine x_iconst C (v := (-1)) (dk ddX10_part 10 rfl) (by decide) ?_
  refine x_icmp_ge C (tgt := 24) (dk ddX10_part 11 rfl) (by decide) (fun _ => ?_) (fun h_ => absurd h_ (by decide))
  refine x_aload_n C (dk ddX10_part 14 rfl) rfl ?_
  refine x_getr C flX10_59 rfl (by have h_ := hC.1; omega) hC.fld.1 (show ax_R G a 8 = some (a + 483) from hC.fld.2.2 (8, 483) (by decide)) (dk ddX10_part 15 rfl) ?_
  refine x_aload_n C (dk ddX10_part 16 rfl) rfl ?_
  refine x_getr C flX10_10 rfl (by have h_ := hC.1; omega) hC.fld.1 (show ax_R G a 0 = some (a + 1) from hC.fld.2.2 (0, 1) (by decide)) (dk ddX10_part 17 rfl) ?_
  refine x_iload_n C (dk ddX10_part 18 rfl) rfl ?_
  refine x_callV C (ci := 3) (As := [.ref (a + 1), .int (nI j)]) (k_X3_load l D T o (d - 1) G I L (a + 483) (a + 1) j g h (gn g) (gc g) (gn h) (gc h) hC.work hC.state (by omega) hf_j (by repeat (first | exact ax_u_at _ _ _ _ | exact hg_j | rw [ax_u_ne (by omega)] | rw [ax_u_nj (by decide)] | rw [ax_sc_ne (by omega)] | rw [ax_rem_ne (by omega) (by omega)] | unfold ax_ldI | unfold ax_woI | unfold ax_rxI | unfold ax_frI0 | unfold ax_frI1 | unfold ax_frI2 | rw [hI_ _ (by omega)] | rw [hN_ (by omega)])) hl_j (by repeat (first | exact ax_u_at _ _ _ _ | exact hh_j | rw [ax_u_ne (by omega)] | rw [ax_u_nj (by decide)] | rw [ax_sc_ne (by omega)] | rw [ax_rem_ne (by omega) (by omega)] | unfold ax_ldI | unfold ax_woI | unfold ax_rxI | unfold ax_frI0 | unfold ax_frI1 | unfold ax_frI2 | rw [hI_ _ (by omega)] | rw [hN_ (by omega)])) hm_j (by repeat (first | exact ax_u_at _ _ _ _ | exact (hgn g hl_j).1 | rw [ax_u_ne (by omega)] | rw [ax_u_nj (by decide)] | rw [ax_sc_ne (by omega)] | rw [ax_rem_ne (by omega) (by omega)] | unfold ax_ldI | unfold ax_woI | unfold ax_rxI | unfold ax_frI0 | unfold ax_frI1 | unfold ax_frI2 | rw [hI_ _ (by omega)] | rw [hN_ (by omega)])) (hgn g hl_j).2 (by repeat (first | exact ax_u_at _ _ _ _ | exact (hgc g hl_j).1 | rw [ax_u_ne (by omega)] | rw [ax_u_nj (by decide)] | rw [ax_sc_ne (by omega)] | rw [ax_rem_ne (by omega) (by omega)] | unfold ax_ldI | unfold ax_woI | unfold ax_rxI | unfold ax_frI0 | unfold ax_frI1 | unfold ax_frI2 | rw [hI_ _ (by omega)] | rw [hN_ (by omega)])) (hgc g hl_j).2 (by repeat (first | exact ax_u_at _ _ _ _ | exact (hgn h hm_j).1 | rw [ax_u_ne (by omega)] | rw [ax_u_nj (by decide)] | rw [ax_sc_ne (by omega)] | rw [ax_rem_ne (by omega) (by omega)] | unfold ax_ldI | unfold ax_woI | unfold ax_rxI | unfold ax_frI0 | unfold ax_frI1 | unfold ax_frI2 | rw [hI_ _ (by omega)] | rw [hN_ (by omega)])) (hgn h hm_j).2 (by repeat (first | exact ax_u_at _ _ _ _ | exact (hgc h hm_j).1 | rw [ax_u_ne (by omega)] | rw [ax_u_nj (by decide)] | rw [ax_sc_ne (by omega)] | rw [ax_rem_ne (by omega) (by omega)] | unfold ax_ldI | unfold ax_woI | unfold ax_rxI | unfold ax_frI0 | unfold ax_frI1 | unfold ax_frI2 | rw [hI_ _ (by omega)] | rw [hN_ (by omega)])) (hgc h hm_j).2 (by omega)) mlX10_227 rfl rfl (by have h_ := hC.work.1; omega) hC.work.fld.1 ⟨by show d - 1 + 1 ≤ d; omega, by show 40 * (d - 1 + 1) ≤ 40 * d; omega⟩ ⟨Nat.le_refl _, Nat.le_refl _⟩ rfl (Nat.le_of_ble_eq_true rfl) (dk ddX10_part 19 rfl) ?_
  rintro v_ G_ I_ L_ ⟨rfl, rfl, rfl, rfl⟩
  rw [show (ax_ldv I L (a + 483) (a + 1) j g h (gn g) (gc g) (gn h) (gc h)) = true from hw]
  refine x_if_ne_b C (tgt := 42) (dk ddX10_part 20 rfl) (by decide) (fun _ => ?_) (fun h_ => absurd h_ (by decide))
  refine x_aload_n C (dk ddX10_part 23 rfl) rfl ?_
  refine x_getr C flX10_59 rfl (by have h_ := hC.1; omega) hC.fld.1 (show ax_R G a 8 = some (a + 483) from hC.fld.2.2 (8, 483) (by decide)) (dk ddX10_part 24 rfl) ?_
  refine x_aload_n C (dk ddX10_part 25 rfl) rfl ?_
  refine x_getr C flX10_10 rfl (by have h_ := hC.1; omega) hC.fld.1 (show ax_R G a 0 = some (a + 1) from hC.fld.2.2 (0, 1) (by decide)) (dk ddX10_part 26 rfl) ?_
  refine x_iload_n C (dk ddX10_part 27 rfl) rfl ?_
  refine x_callV C (ci := 3) (As := [.ref (a + 1), .int (nI j)]) (k_X3_workOut l D T o (d - 1) G (ax_ldI I (a + 483) (gn g) (gn h)) (ax_ldL I L (a + 483) (a + 1) j g h (gn g) (gc g) (gn h) (gc h)) (a + 483) (a + 1) j (gn g) (gn h) hC.work hC.state (by omega) hf_j (by repeat (first | exact ax_u_at _ _ _ _ | rw [ax_u_ne (by omega)] | rw [ax_u_nj (by decide)] | rw [ax_sc_ne (by omega)] | rw [ax_rem_ne (by omega) (by omega)] | unfold ax_ldI | unfold ax_woI | unfold ax_rxI | unfold ax_frI0 | unfold ax_frI1 | unfold ax_frI2 | rw [hI_ _ (by omega)] | rw [hN_ (by omega)])) (hgn g hl_j).2 (by repeat (first | exact ax_u_at _ _ _ _ | rw [ax_u_ne (by omega)] | rw [ax_u_nj (by decide)] | rw [ax_sc_ne (by omega)] | rw [ax_rem_ne (by omega) (by omega)] | unfold ax_ldI | unfold ax_woI | unfold ax_rxI | unfold ax_frI0 | unfold ax_frI1 | unfold ax_frI2 | rw [hI_ _ (by omega)] | rw [hN_ (by omega)])) (hgn h hm_j).2 (by omega)) mlX10_231 rfl rfl (by have h_ := hC.work.1; omega) hC.work.fld.1 ⟨by show d - 1 + 1 ≤ d; omega, by show 40 * (d - 1 + 1) ≤ 40 * d; omega⟩ ⟨Nat.le_refl _, Nat.le_refl _⟩ rfl (Nat.le_of_ble_eq_true rfl) (dk ddX10_part 28 rfl) ?_
  rintro v_ G_ I_ L_ ⟨rfl, rfl, rfl, rfl⟩
  refine x_aload_n C (dk ddX10_part 29 rfl) rfl ?_
  refine x_getr C flX10_59 rfl (by have h_ := hC.1; omega) hC.fld.1 (show ax_R G a 8 = some (a + 483) from hC.fld.2.2 (8, 483) (by decide)) (dk ddX10_part 30 rfl) ?_
  refine x_iload_n C (dk ddX10_part 31 rfl) rfl ?_
  refine x_aload_n C (dk ddX10_part 32 rfl) rfl ?_
  refine x_getr C flX10_79 rfl (by have h_ := hC.1; omega) hC.fld.1 (show ax_R G a 12 = some (a + 615) from hC.fld.2.2 (12, 615) (by decide)) (dk ddX10_part 33 rfl) ?_
  have hrk_ := ax_rkc_le (a + 483 + 28) (ax_woL (ax_ldI I (a + 483) (gn g) (gn h)) (ax_ldL I L (a + 483) (a + 1) j g h (gn g) (gc g) (gn h) (gc h)) (a + 483) (a + 1) j (gn g) (gn h)) (gn g)
  refine x_callV C (ci := 3) (As := [.int (nI 0), .ref (a + 615)]) (k_X3_fillRings_0 l D T o (d - 1) G (ax_woI (ax_ldI I (a + 483) (gn g) (gn h)) (a + 483) (gn g) (gn h)) (ax_woL (ax_ldI I (a + 483) (gn g) (gn h)) (ax_ldL I L (a + 483) (a + 1) j g h (gn g) (gc g) (gn h) (gc h)) (a + 483) (a + 1) j (gn g) (gn h)) (a + 483) (a + 615) (a + 616) (gn g) (gn h) hC.work hC.rings (by omega) (by repeat (first | exact ax_u_at _ _ _ _ | rw [ax_u_ne (by omega)] | rw [ax_u_nj (by decide)] | rw [ax_sc_ne (by omega)] | rw [ax_rem_ne (by omega) (by omega)] | unfold ax_ldI | unfold ax_woI | unfold ax_rxI | unfold ax_frI0 | unfold ax_frI1 | unfold ax_frI2 | rw [hI_ _ (by omega)] | rw [hN_ (by omega)])) (by omega) (by refine Eq.trans (b := nI ((gn h) + (gn g) - (gn h))) ?_ (congrArg nI (Nat.add_sub_cancel_left ..)); exact (by repeat (first | exact ax_u_at _ _ _ _ | rw [ax_u_ne (by omega)] | rw [ax_u_nj (by decide)] | rw [ax_sc_ne (by omega)] | rw [ax_rem_ne (by omega) (by omega)] | unfold ax_ldI | unfold ax_woI | unfold ax_rxI | unfold ax_frI0 | unfold ax_frI1 | unfold ax_frI2 | rw [hI_ _ (by omega)] | rw [hN_ (by omega)]))) (by repeat (first | exact ax_u_at _ _ _ _ | rw [ax_u_ne (by omega)] | rw [ax_u_nj (by decide)] | rw [ax_sc_ne (by omega)] | rw [ax_rem_ne (by omega) (by omega)] | unfold ax_ldI | unfold ax_woI | unfold ax_rxI | unfold ax_frI0 | unfold ax_frI1 | unfold ax_frI2 | rw [hI_ _ (by omega)] | rw [hN_ (by omega)])) (by omega) (by omega)) mlX10_249 rfl rfl (by have h_ := hC.work.1; omega) hC.work.fld.1 ⟨by show d - 1 + 1 ≤ d; omega, by show 40 * (d - 1 + 1) ≤ 40 * d; omega⟩ ⟨Nat.le_refl _, Nat.le_refl _⟩ rfl (Nat.le_of_ble_eq_true rfl) (dk ddX10_part 34 rfl) ?_
  rintro v_ G_ I_ L_ ⟨rfl, rfl, rfl, rfl⟩
  refine x_aload_n C (dk ddX10_part 35 rfl) rfl ?_
  refine x_getr C flX10_79 rfl (by have h_ := hC.1; omega) hC.fld.1 (show ax_R G a 12 = some (a + 615) from hC.fld.2.2 (12, 615) (by decide)) (dk ddX10_part 36 rfl) ?_
  refine x_iload_n C (dk ddX10_part 37 rfl) rfl ?_
  refine x_callS C (As := [.ref (a + 615), .int (-1)]) (k_X10_ownRing_many l D T o (d - 1) G (ax_frI0 (ax_woI (ax_ldI I (a + 483) (gn g) (gn h)) (a + 483) (gn g) (gn h)) (ax_woL (ax_ldI I (a + 483) (gn g) (gn h)) (ax_ldL I L (a + 483) (a + 1) j g h (gn g) (gc g) (gn h) (gc h)) (a + 483) (a + 1) j (gn g) (gn h)) (a + 483) (a + 615) (gn g)) (ax_frL0 (ax_woL (ax_ldI I (a + 483) (gn g) (gn h)) (ax_ldL I L (a + 483) (a + 1) j g h (gn g) (gc g) (gn h) (gc h)) (a + 483) (a + 1) j (gn g) (gn h)) (a + 483) (a + 616) (gn g)) (a + 615) (a + 616) (ax_rkc (a + 483 + 28) (ax_woL (ax_ldI I (a + 483) (gn g) (gn h)) (ax_ldL I L (a + 483) (a + 1) j g h (gn g) (gc g) (gn h) (gc h)) (a + 483) (a + 1) j (gn g) (gn h)) (gn g)) hC.rings (by repeat (first | exact ax_u_at _ _ _ _ | rw [ax_u_ne (by omega)] | rw [ax_u_nj (by decide)] | rw [ax_sc_ne (by omega)] | rw [ax_rem_ne (by omega) (by omega)] | unfold ax_ldI | unfold ax_woI | unfold ax_rxI | unfold ax_frI0 | unfold ax_frI1 | unfold ax_frI2 | rw [hI_ _ (by omega)] | rw [hN_ (by omega)])) (by omega) (by omega)) mlX10_179 ⟨by show d - 1 + 1 ≤ d; omega, by show 40 * (d - 1 + 1) ≤ 40 * d; omega⟩ ⟨Nat.le_refl _, Nat.le_refl _⟩ rfl (Nat.le_of_ble_eq_true rfl) (dk ddX10_part 38 rfl) ?_
  rintro v_ G_ I_ L_ ⟨rfl, rfl, rfl, rfl⟩
  exact x_iret C rfl ⟨rfl, rfl, rfl, rfl⟩ rfl rfl (dk ddX10_part 39 rfl)
def ax_paI1_many (I : ax_I) (a : Nat) (g : Nat) (h : Nat) (gn : Nat → Nat) : ax_I := ax_frI1 (ax_woI (ax_ldI I (a + 483) (gn g) (gn h)) (a + 483) (gn g) (gn h)) (a + 615) (gn g)
def ax_paL1_many (I : ax_I) (L : ax_L) (a : Nat) (j : Nat) (g : Nat) (h : Nat) (gn : Nat → Nat) (gc : Nat → Nat) : ax_L := ax_frL1 (ax_woL (ax_ldI I (a + 483) (gn g) (gn h)) (ax_ldL I L (a + 483) (a + 1) j g h (gn g) (gc g) (gn h) (gc h)) (a + 483) (a + 1) j (gn g) (gn h)) (a + 483) (a + 616) (gn g)
def ax_pav1_many (I : ax_I) (L : ax_L) (a : Nat) (j : Nat) (g : Nat) (h : Nat) (gn : Nat → Nat) (gc : Nat → Nat) : Int32 := nI (ax_cn ((ax_frL1 (ax_woL (ax_ldI I (a + 483) (gn g) (gn h)) (ax_ldL I L (a + 483) (a + 1) j g h (gn g) (gc g) (gn h) (gc h)) (a + 483) (a + 1) j (gn g) (gn h)) (a + 483) (a + 616) (gn g)) (a + 616)) (gn g))
set_option maxRecDepth 20000 in
/-- part(j, 1, ..) -/
theorem k_X10_part_1_many (l : Launch) (D : va_G) (T : Nat → ClassId) (o d : Nat) (G : ax_G) (I : ax_I) (L : ax_L) (a j g h : Nat) (gn gc : Nat → Nat) (hC : ax_Cls G a) (hgn : ∀ g, g < 6 → I (a + 1 + 1) g = nI (gn g) ∧ gn g ≤ 3) (hgc : ∀ g, g < 6 → I (a + 1 + 2) g = nI (gc g) ∧ gc g ≤ 4) (hf_j : j < 8) (hg_j : I (a + 1 + 4) j = nI g) (hl_j : g < 6) (hh_j : I (a + 1 + 5) j = nI h) (hm_j : h < 6) (hw : ax_ldv I L (a + 483) (a + 1) j g h (gn g) (gc g) (gn h) (gc h) = true) (hd : 8 ≤ d) : ax_Con l D T o yX10_part cX10_part 4 (some .int) d 0 0 [.ref a, .int (nI j), .int (nI 1), .int (-1)] G I L (fun zz G' I' L' => zz = some (.int (ax_pav1_many I L a j g h gn gc)) ∧ G = G' ∧ (ax_paI1_many I a g h gn) = I' ∧ (ax_paL1_many I L a j g h gn gc) = L') := by
  refine ax_enter (by decide +kernel) (Nat.le_of_ble_eq_true rfl) ?_
  intro p_ e_ s_ m_ args_ below_ meth_ c_ C _
  refine x_lvs (lv' := [(0, .ref a), (1, .int (nI j)), (2, .int (nI 1)), (3, .int (-1))]) rfl ?_
  have hb_ := (hgn g hl_j).2
  have hb2_ := (hgn h hm_j).2
  refine x_aload_n C (dk ddX10_part 0 rfl) rfl ?_
  refine x_iload_n C (dk ddX10_part 1 rfl) rfl ?_
  refine x_callV C (ci := 10) (As := [.int (nI j)]) (k_X10_isMap l D T o (d - 1) G I L a j hC (by omega) (by omega)) mlX10_218 rfl rfl (by have h_ := hC.1; omega) hC.fld.1 ⟨by show d - 1 + 1 ≤ d; omega, by show 40 * (d - 1 + 1) ≤ 40 * d; omega⟩ ⟨Nat.le_refl _, Nat.le_refl _⟩ rfl (Nat.le_of_ble_eq_true rfl) (dk ddX10_part 2 rfl) ?_
  rintro v_ G_ I_ L_ ⟨rfl, rfl, rfl, rfl⟩
  rw [show (!decide (I (a + 1 + 4) j = -1)) = true from by rw [show I (a + 1 + 4) j = nI g from (by repeat (first | exact ax_u_at _ _ _ _ | exact hg_j | rw [ax_u_ne (by omega)] | rw [ax_u_nj (by decide)] | rw [ax_sc_ne (by omega)] | rw [ax_rem_ne (by omega) (by omega)] | unfold ax_ldI | unfold ax_woI | unfold ax_rxI | unfold ax_frI0 | unfold ax_frI1 | unfold ax_frI2 | rw [hI_ _ (by omega)] | rw [hN_ (by omega)]))]; exact ax_hm hl_j]
  refine x_if_eq_b C (tgt := 22) (dk ddX10_part 3 rfl) (by decide) (fun h_ => absurd h_ (by decide)) (fun _ => ?_)
  refine x_iload_n C (dk ddX10_part 4 rfl) rfl ?_
  refine x_if_lt_n C (tgt := 22) (dk ddX10_part 5 rfl) (by decide) (by decide) (fun h_ => absurd h_ (by decide)) (fun _ => ?_)
  refine x_iload_n C (dk ddX10_part 6 rfl) rfl ?_
  refine x_iconst C (v := nI 2) (dk ddX10_part 7 rfl) (by decide) ?_
  refine x_icmp_gt_n C (tgt := 22) (dk ddX10_part 8 rfl) (by decide) (by decide) (by decide) (fun h_ => absurd h_ (by decide)) (fun _ => ?_)
  refine x_iload_n C (dk ddX10_part 9 rfl) rfl ?_
  refine x_iconst C (v := (-1)) (dk ddX10_part 10 rfl) (by decide) ?_
  refine x_icmp_ge C (tgt := 24) (dk ddX10_part 11 rfl) (by decide) (fun _ => ?_) (fun h_ => absurd h_ (by decide))
  refine x_aload_n C (dk ddX10_part 14 rfl) rfl ?_
  refine x_getr C flX10_59 rfl (by have h_ := hC.1; omega) hC.fld.1 (show ax_R G a 8 = some (a + 483) from hC.fld.2.2 (8, 483) (by decide)) (dk ddX10_part 15 rfl) ?_
  refine x_aload_n C (dk ddX10_part 16 rfl) rfl ?_
  refine x_getr C flX10_10 rfl (by have h_ := hC.1; omega) hC.fld.1 (show ax_R G a 0 = some (a + 1) from hC.fld.2.2 (0, 1) (by decide)) (dk ddX10_part 17 rfl) ?_
  refine x_iload_n C (dk ddX10_part 18 rfl) rfl ?_
  refine x_callV C (ci := 3) (As := [.ref (a + 1), .int (nI j)]) (k_X3_load l D T o (d - 1) G I L (a + 483) (a + 1) j g h (gn g) (gc g) (gn h) (gc h) hC.work hC.state (by omega) hf_j (by repeat (first | exact ax_u_at _ _ _ _ | exact hg_j | rw [ax_u_ne (by omega)] | rw [ax_u_nj (by decide)] | rw [ax_sc_ne (by omega)] | rw [ax_rem_ne (by omega) (by omega)] | unfold ax_ldI | unfold ax_woI | unfold ax_rxI | unfold ax_frI0 | unfold ax_frI1 | unfold ax_frI2 | rw [hI_ _ (by omega)] | rw [hN_ (by omega)])) hl_j (by repeat (first | exact ax_u_at _ _ _ _ | exact hh_j | rw [ax_u_ne (by omega)] | rw [ax_u_nj (by decide)] | rw [ax_sc_ne (by omega)] | rw [ax_rem_ne (by omega) (by omega)] | unfold ax_ldI | unfold ax_woI | unfold ax_rxI | unfold ax_frI0 | unfold ax_frI1 | unfold ax_frI2 | rw [hI_ _ (by omega)] | rw [hN_ (by omega)])) hm_j (by repeat (first | exact ax_u_at _ _ _ _ | exact (hgn g hl_j).1 | rw [ax_u_ne (by omega)] | rw [ax_u_nj (by decide)] | rw [ax_sc_ne (by omega)] | rw [ax_rem_ne (by omega) (by omega)] | unfold ax_ldI | unfold ax_woI | unfold ax_rxI | unfold ax_frI0 | unfold ax_frI1 | unfold ax_frI2 | rw [hI_ _ (by omega)] | rw [hN_ (by omega)])) (hgn g hl_j).2 (by repeat (first | exact ax_u_at _ _ _ _ | exact (hgc g hl_j).1 | rw [ax_u_ne (by omega)] | rw [ax_u_nj (by decide)] | rw [ax_sc_ne (by omega)] | rw [ax_rem_ne (by omega) (by omega)] | unfold ax_ldI | unfold ax_woI | unfold ax_rxI | unfold ax_frI0 | unfold ax_frI1 | unfold ax_frI2 | rw [hI_ _ (by omega)] | rw [hN_ (by omega)])) (hgc g hl_j).2 (by repeat (first | exact ax_u_at _ _ _ _ | exact (hgn h hm_j).1 | rw [ax_u_ne (by omega)] | rw [ax_u_nj (by decide)] | rw [ax_sc_ne (by omega)] | rw [ax_rem_ne (by omega) (by omega)] | unfold ax_ldI | unfold ax_woI | unfold ax_rxI | unfold ax_frI0 | unfold ax_frI1 | unfold ax_frI2 | rw [hI_ _ (by omega)] | rw [hN_ (by omega)])) (hgn h hm_j).2 (by repeat (first | exact ax_u_at _ _ _ _ | exact (hgc h hm_j).1 | rw [ax_u_ne (by omega)] | rw [ax_u_nj (by decide)] | rw [ax_sc_ne (by omega)] | rw [ax_rem_ne (by omega) (by omega)] | unfold ax_ldI | unfold ax_woI | unfold ax_rxI | unfold ax_frI0 | unfold ax_frI1 | unfold ax_frI2 | rw [hI_ _ (by omega)] | rw [hN_ (by omega)])) (hgc h hm_j).2 (by omega)) mlX10_227 rfl rfl (by have h_ := hC.work.1; omega) hC.work.fld.1 ⟨by show d - 1 + 1 ≤ d; omega, by show 40 * (d - 1 + 1) ≤ 40 * d; omega⟩ ⟨Nat.le_refl _, Nat.le_refl _⟩ rfl (Nat.le_of_ble_eq_true rfl) (dk ddX10_part 19 rfl) ?_
  rintro v_ G_ I_ L_ ⟨rfl, rfl, rfl, rfl⟩
  rw [show (ax_ldv I L (a + 483) (a + 1) j g h (gn g) (gc g) (gn h) (gc h)) = true from hw]
  refine x_if_ne_b C (tgt := 42) (dk ddX10_part 20 rfl) (by decide) (fun _ => ?_) (fun h_ => absurd h_ (by decide))
  refine x_aload_n C (dk ddX10_part 23 rfl) rfl ?_
  refine x_getr C flX10_59 rfl (by have h_ := hC.1; omega) hC.fld.1 (show ax_R G a 8 = some (a + 483) from hC.fld.2.2 (8, 483) (by decide)) (dk ddX10_part 24 rfl) ?_
  refine x_aload_n C (dk ddX10_part 25 rfl) rfl ?_
  refine x_getr C flX10_10 rfl (by have h_ := hC.1; omega) hC.fld.1 (show ax_R G a 0 = some (a + 1) from hC.fld.2.2 (0, 1) (by decide)) (dk ddX10_part 26 rfl) ?_
  refine x_iload_n C (dk ddX10_part 27 rfl) rfl ?_
  refine x_callV C (ci := 3) (As := [.ref (a + 1), .int (nI j)]) (k_X3_workOut l D T o (d - 1) G (ax_ldI I (a + 483) (gn g) (gn h)) (ax_ldL I L (a + 483) (a + 1) j g h (gn g) (gc g) (gn h) (gc h)) (a + 483) (a + 1) j (gn g) (gn h) hC.work hC.state (by omega) hf_j (by repeat (first | exact ax_u_at _ _ _ _ | rw [ax_u_ne (by omega)] | rw [ax_u_nj (by decide)] | rw [ax_sc_ne (by omega)] | rw [ax_rem_ne (by omega) (by omega)] | unfold ax_ldI | unfold ax_woI | unfold ax_rxI | unfold ax_frI0 | unfold ax_frI1 | unfold ax_frI2 | rw [hI_ _ (by omega)] | rw [hN_ (by omega)])) (hgn g hl_j).2 (by repeat (first | exact ax_u_at _ _ _ _ | rw [ax_u_ne (by omega)] | rw [ax_u_nj (by decide)] | rw [ax_sc_ne (by omega)] | rw [ax_rem_ne (by omega) (by omega)] | unfold ax_ldI | unfold ax_woI | unfold ax_rxI | unfold ax_frI0 | unfold ax_frI1 | unfold ax_frI2 | rw [hI_ _ (by omega)] | rw [hN_ (by omega)])) (hgn h hm_j).2 (by omega)) mlX10_231 rfl rfl (by have h_ := hC.work.1; omega) hC.work.fld.1 ⟨by show d - 1 + 1 ≤ d; omega, by show 40 * (d - 1 + 1) ≤ 40 * d; omega⟩ ⟨Nat.le_refl _, Nat.le_refl _⟩ rfl (Nat.le_of_ble_eq_true rfl) (dk ddX10_part 28 rfl) ?_
  rintro v_ G_ I_ L_ ⟨rfl, rfl, rfl, rfl⟩
  refine x_aload_n C (dk ddX10_part 29 rfl) rfl ?_
  refine x_getr C flX10_59 rfl (by have h_ := hC.1; omega) hC.fld.1 (show ax_R G a 8 = some (a + 483) from hC.fld.2.2 (8, 483) (by decide)) (dk ddX10_part 30 rfl) ?_
  refine x_iload_n C (dk ddX10_part 31 rfl) rfl ?_
  refine x_aload_n C (dk ddX10_part 32 rfl) rfl ?_
  refine x_getr C flX10_79 rfl (by have h_ := hC.1; omega) hC.fld.1 (show ax_R G a 12 = some (a + 615) from hC.fld.2.2 (12, 615) (by decide)) (dk ddX10_part 33 rfl) ?_
  refine x_callV C (ci := 3) (As := [.int (nI 1), .ref (a + 615)]) (k_X3_fillRings_1 l D T o (d - 1) G (ax_woI (ax_ldI I (a + 483) (gn g) (gn h)) (a + 483) (gn g) (gn h)) (ax_woL (ax_ldI I (a + 483) (gn g) (gn h)) (ax_ldL I L (a + 483) (a + 1) j g h (gn g) (gc g) (gn h) (gc h)) (a + 483) (a + 1) j (gn g) (gn h)) (a + 483) (a + 615) (a + 616) (gn g) (gn h) hC.work hC.rings (by omega) (by repeat (first | exact ax_u_at _ _ _ _ | rw [ax_u_ne (by omega)] | rw [ax_u_nj (by decide)] | rw [ax_sc_ne (by omega)] | rw [ax_rem_ne (by omega) (by omega)] | unfold ax_ldI | unfold ax_woI | unfold ax_rxI | unfold ax_frI0 | unfold ax_frI1 | unfold ax_frI2 | rw [hI_ _ (by omega)] | rw [hN_ (by omega)])) (by omega) (by refine Eq.trans (b := nI ((gn h) + (gn g) - (gn h))) ?_ (congrArg nI (Nat.add_sub_cancel_left ..)); exact (by repeat (first | exact ax_u_at _ _ _ _ | rw [ax_u_ne (by omega)] | rw [ax_u_nj (by decide)] | rw [ax_sc_ne (by omega)] | rw [ax_rem_ne (by omega) (by omega)] | unfold ax_ldI | unfold ax_woI | unfold ax_rxI | unfold ax_frI0 | unfold ax_frI1 | unfold ax_frI2 | rw [hI_ _ (by omega)] | rw [hN_ (by omega)]))) (by repeat (first | exact ax_u_at _ _ _ _ | rw [ax_u_ne (by omega)] | rw [ax_u_nj (by decide)] | rw [ax_sc_ne (by omega)] | rw [ax_rem_ne (by omega) (by omega)] | unfold ax_ldI | unfold ax_woI | unfold ax_rxI | unfold ax_frI0 | unfold ax_frI1 | unfold ax_frI2 | rw [hI_ _ (by omega)] | rw [hN_ (by omega)])) (by omega) (by omega)) mlX10_249 rfl rfl (by have h_ := hC.work.1; omega) hC.work.fld.1 ⟨by show d - 1 + 1 ≤ d; omega, by show 40 * (d - 1 + 1) ≤ 40 * d; omega⟩ ⟨Nat.le_refl _, Nat.le_refl _⟩ rfl (Nat.le_of_ble_eq_true rfl) (dk ddX10_part 34 rfl) ?_
  rintro v_ G_ I_ L_ ⟨rfl, rfl, rfl, rfl⟩
  refine x_aload_n C (dk ddX10_part 35 rfl) rfl ?_
  refine x_getr C flX10_79 rfl (by have h_ := hC.1; omega) hC.fld.1 (show ax_R G a 12 = some (a + 615) from hC.fld.2.2 (12, 615) (by decide)) (dk ddX10_part 36 rfl) ?_
  refine x_iload_n C (dk ddX10_part 37 rfl) rfl ?_
  refine x_callS C (As := [.ref (a + 615), .int (-1)]) (k_X10_ownRing_many l D T o (d - 1) G (ax_frI1 (ax_woI (ax_ldI I (a + 483) (gn g) (gn h)) (a + 483) (gn g) (gn h)) (a + 615) (gn g)) (ax_frL1 (ax_woL (ax_ldI I (a + 483) (gn g) (gn h)) (ax_ldL I L (a + 483) (a + 1) j g h (gn g) (gc g) (gn h) (gc h)) (a + 483) (a + 1) j (gn g) (gn h)) (a + 483) (a + 616) (gn g)) (a + 615) (a + 616) (gn g) hC.rings (by repeat (first | exact ax_u_at _ _ _ _ | rw [ax_u_ne (by omega)] | rw [ax_u_nj (by decide)] | rw [ax_sc_ne (by omega)] | rw [ax_rem_ne (by omega) (by omega)] | unfold ax_ldI | unfold ax_woI | unfold ax_rxI | unfold ax_frI0 | unfold ax_frI1 | unfold ax_frI2 | rw [hI_ _ (by omega)] | rw [hN_ (by omega)])) (by omega) (by omega)) mlX10_179 ⟨by show d - 1 + 1 ≤ d; omega, by show 40 * (d - 1 + 1) ≤ 40 * d; omega⟩ ⟨Nat.le_refl _, Nat.le_refl _⟩ rfl (Nat.le_of_ble_eq_true rfl) (dk ddX10_part 38 rfl) ?_
  rintro v_ G_ I_ L_ ⟨rfl, rfl, rfl, rfl⟩
  exact x_iret C rfl ⟨rfl, rfl, rfl, rfl⟩ rfl rfl (dk ddX10_part 39 rfl)
def ax_paI2_many (I : ax_I) (a : Nat) (g : Nat) (h : Nat) (gn : Nat → Nat) : ax_I := ax_frI2 (ax_woI (ax_ldI I (a + 483) (gn g) (gn h)) (a + 483) (gn g) (gn h)) (a + 615) (gn h)
def ax_paL2_many (I : ax_I) (L : ax_L) (a : Nat) (j : Nat) (g : Nat) (h : Nat) (gn : Nat → Nat) (gc : Nat → Nat) : ax_L := ax_frL2 (ax_woL (ax_ldI I (a + 483) (gn g) (gn h)) (ax_ldL I L (a + 483) (a + 1) j g h (gn g) (gc g) (gn h) (gc h)) (a + 483) (a + 1) j (gn g) (gn h)) (a + 483) (a + 616) (gn h)
def ax_pav2_many (I : ax_I) (L : ax_L) (a : Nat) (j : Nat) (g : Nat) (h : Nat) (gn : Nat → Nat) (gc : Nat → Nat) : Int32 := nI (ax_cn ((ax_frL2 (ax_woL (ax_ldI I (a + 483) (gn g) (gn h)) (ax_ldL I L (a + 483) (a + 1) j g h (gn g) (gc g) (gn h) (gc h)) (a + 483) (a + 1) j (gn g) (gn h)) (a + 483) (a + 616) (gn h)) (a + 616)) (gn h))
set_option maxRecDepth 20000 in
/-- part(j, 2, ..) -/
theorem k_X10_part_2_many (l : Launch) (D : va_G) (T : Nat → ClassId) (o d : Nat) (G : ax_G) (I : ax_I) (L : ax_L) (a j g h : Nat) (gn gc : Nat → Nat) (hC : ax_Cls G a) (hgn : ∀ g, g < 6 → I (a + 1 + 1) g = nI (gn g) ∧ gn g ≤ 3) (hgc : ∀ g, g < 6 → I (a + 1 + 2) g = nI (gc g) ∧ gc g ≤ 4) (hf_j : j < 8) (hg_j : I (a + 1 + 4) j = nI g) (hl_j : g < 6) (hh_j : I (a + 1 + 5) j = nI h) (hm_j : h < 6) (hw : ax_ldv I L (a + 483) (a + 1) j g h (gn g) (gc g) (gn h) (gc h) = true) (hd : 8 ≤ d) : ax_Con l D T o yX10_part cX10_part 4 (some .int) d 0 0 [.ref a, .int (nI j), .int (nI 2), .int (-1)] G I L (fun zz G' I' L' => zz = some (.int (ax_pav2_many I L a j g h gn gc)) ∧ G = G' ∧ (ax_paI2_many I a g h gn) = I' ∧ (ax_paL2_many I L a j g h gn gc) = L') := by
  refine ax_enter (by decide +kernel) (Nat.le_of_ble_eq_true rfl) ?_
  intro p_ e_ s_ m_ args_ below_ meth_ c_ C _
  refine x_lvs (lv' := [(0, .ref a), (1, .int (nI j)), (2, .int (nI 2)), (3, .int (-1))]) rfl ?_
  have hb_ := (hgn g hl_j).2
  have hb2_ := (hgn h hm_j).2
  refine x_aload_n C (dk ddX10_part 0 rfl) rfl ?_
  refine x_iload_n C (dk ddX10_part 1 rfl) rfl ?_
  refine x_callV C (ci := 10) (As := [.int (nI j)]) (k_X10_isMap l D T o (d - 1) G I L a j hC (by omega) (by omega)) mlX10_218 rfl rfl (by have h_ := hC.1; omega) hC.fld.1 ⟨by show d - 1 + 1 ≤ d; omega, by show 40 * (d - 1 + 1) ≤ 40 * d; omega⟩ ⟨Nat.le_refl _, Nat.le_refl _⟩ rfl (Nat.le_of_ble_eq_true rfl) (dk ddX10_part 2 rfl) ?_
  rintro v_ G_ I_ L_ ⟨rfl, rfl, rfl, rfl⟩
  rw [show (!decide (I (a + 1 + 4) j = -1)) = true from by rw [show I (a + 1 + 4) j = nI g from (by repeat (first | exact ax_u_at _ _ _ _ | exact hg_j | rw [ax_u_ne (by omega)] | rw [ax_u_nj (by decide)] | rw [ax_sc_ne (by omega)] | rw [ax_rem_ne (by omega) (by omega)] | unfold ax_ldI | unfold ax_woI | unfold ax_rxI | unfold ax_frI0 | unfold ax_frI1 | unfold ax_frI2 | rw [hI_ _ (by omega)] | rw [hN_ (by omega)]))]; exact ax_hm hl_j]
  refine x_if_eq_b C (tgt := 22) (dk ddX10_part 3 rfl) (by decide) (fun h_ => absurd h_ (by decide)) (fun _ => ?_)
  refine x_iload_n C (dk ddX10_part 4 rfl) rfl ?_
  refine x_if_lt_n C (tgt := 22) (dk ddX10_part 5 rfl) (by decide) (by decide) (fun h_ => absurd h_ (by decide)) (fun _ => ?_)
  refine x_iload_n C (dk ddX10_part 6 rfl) rfl ?_
  refine x_iconst C (v := nI 2) (dk ddX10_part 7 rfl) (by decide) ?_
  refine x_icmp_gt_n C (tgt := 22) (dk ddX10_part 8 rfl) (by decide) (by decide) (by decide) (fun h_ => absurd h_ (by decide)) (fun _ => ?_)
  refine x_iload_n C (dk ddX10_part 9 rfl) rfl ?_
  refine x_iconst C (v := (-1)) (dk ddX10_part 10 rfl) (by decide) ?_
  refine x_icmp_ge C (tgt := 24) (dk ddX10_part 11 rfl) (by decide) (fun _ => ?_) (fun h_ => absurd h_ (by decide))
  refine x_aload_n C (dk ddX10_part 14 rfl) rfl ?_
  refine x_getr C flX10_59 rfl (by have h_ := hC.1; omega) hC.fld.1 (show ax_R G a 8 = some (a + 483) from hC.fld.2.2 (8, 483) (by decide)) (dk ddX10_part 15 rfl) ?_
  refine x_aload_n C (dk ddX10_part 16 rfl) rfl ?_
  refine x_getr C flX10_10 rfl (by have h_ := hC.1; omega) hC.fld.1 (show ax_R G a 0 = some (a + 1) from hC.fld.2.2 (0, 1) (by decide)) (dk ddX10_part 17 rfl) ?_
  refine x_iload_n C (dk ddX10_part 18 rfl) rfl ?_
  refine x_callV C (ci := 3) (As := [.ref (a + 1), .int (nI j)]) (k_X3_load l D T o (d - 1) G I L (a + 483) (a + 1) j g h (gn g) (gc g) (gn h) (gc h) hC.work hC.state (by omega) hf_j (by repeat (first | exact ax_u_at _ _ _ _ | exact hg_j | rw [ax_u_ne (by omega)] | rw [ax_u_nj (by decide)] | rw [ax_sc_ne (by omega)] | rw [ax_rem_ne (by omega) (by omega)] | unfold ax_ldI | unfold ax_woI | unfold ax_rxI | unfold ax_frI0 | unfold ax_frI1 | unfold ax_frI2 | rw [hI_ _ (by omega)] | rw [hN_ (by omega)])) hl_j (by repeat (first | exact ax_u_at _ _ _ _ | exact hh_j | rw [ax_u_ne (by omega)] | rw [ax_u_nj (by decide)] | rw [ax_sc_ne (by omega)] | rw [ax_rem_ne (by omega) (by omega)] | unfold ax_ldI | unfold ax_woI | unfold ax_rxI | unfold ax_frI0 | unfold ax_frI1 | unfold ax_frI2 | rw [hI_ _ (by omega)] | rw [hN_ (by omega)])) hm_j (by repeat (first | exact ax_u_at _ _ _ _ | exact (hgn g hl_j).1 | rw [ax_u_ne (by omega)] | rw [ax_u_nj (by decide)] | rw [ax_sc_ne (by omega)] | rw [ax_rem_ne (by omega) (by omega)] | unfold ax_ldI | unfold ax_woI | unfold ax_rxI | unfold ax_frI0 | unfold ax_frI1 | unfold ax_frI2 | rw [hI_ _ (by omega)] | rw [hN_ (by omega)])) (hgn g hl_j).2 (by repeat (first | exact ax_u_at _ _ _ _ | exact (hgc g hl_j).1 | rw [ax_u_ne (by omega)] | rw [ax_u_nj (by decide)] | rw [ax_sc_ne (by omega)] | rw [ax_rem_ne (by omega) (by omega)] | unfold ax_ldI | unfold ax_woI | unfold ax_rxI | unfold ax_frI0 | unfold ax_frI1 | unfold ax_frI2 | rw [hI_ _ (by omega)] | rw [hN_ (by omega)])) (hgc g hl_j).2 (by repeat (first | exact ax_u_at _ _ _ _ | exact (hgn h hm_j).1 | rw [ax_u_ne (by omega)] | rw [ax_u_nj (by decide)] | rw [ax_sc_ne (by omega)] | rw [ax_rem_ne (by omega) (by omega)] | unfold ax_ldI | unfold ax_woI | unfold ax_rxI | unfold ax_frI0 | unfold ax_frI1 | unfold ax_frI2 | rw [hI_ _ (by omega)] | rw [hN_ (by omega)])) (hgn h hm_j).2 (by repeat (first | exact ax_u_at _ _ _ _ | exact (hgc h hm_j).1 | rw [ax_u_ne (by omega)] | rw [ax_u_nj (by decide)] | rw [ax_sc_ne (by omega)] | rw [ax_rem_ne (by omega) (by omega)] | unfold ax_ldI | unfold ax_woI | unfold ax_rxI | unfold ax_frI0 | unfold ax_frI1 | unfold ax_frI2 | rw [hI_ _ (by omega)] | rw [hN_ (by omega)])) (hgc h hm_j).2 (by omega)) mlX10_227 rfl rfl (by have h_ := hC.work.1; omega) hC.work.fld.1 ⟨by show d - 1 + 1 ≤ d; omega, by show 40 * (d - 1 + 1) ≤ 40 * d; omega⟩ ⟨Nat.le_refl _, Nat.le_refl _⟩ rfl (Nat.le_of_ble_eq_true rfl) (dk ddX10_part 19 rfl) ?_
  rintro v_ G_ I_ L_ ⟨rfl, rfl, rfl, rfl⟩
  rw [show (ax_ldv I L (a + 483) (a + 1) j g h (gn g) (gc g) (gn h) (gc h)) = true from hw]
  refine x_if_ne_b C (tgt := 42) (dk ddX10_part 20 rfl) (by decide) (fun _ => ?_) (fun h_ => absurd h_ (by decide))
  refine x_aload_n C (dk ddX10_part 23 rfl) rfl ?_
  refine x_getr C flX10_59 rfl (by have h_ := hC.1; omega) hC.fld.1 (show ax_R G a 8 = some (a + 483) from hC.fld.2.2 (8, 483) (by decide)) (dk ddX10_part 24 rfl) ?_
  refine x_aload_n C (dk ddX10_part 25 rfl) rfl ?_
  refine x_getr C flX10_10 rfl (by have h_ := hC.1; omega) hC.fld.1 (show ax_R G a 0 = some (a + 1) from hC.fld.2.2 (0, 1) (by decide)) (dk ddX10_part 26 rfl) ?_
  refine x_iload_n C (dk ddX10_part 27 rfl) rfl ?_
  refine x_callV C (ci := 3) (As := [.ref (a + 1), .int (nI j)]) (k_X3_workOut l D T o (d - 1) G (ax_ldI I (a + 483) (gn g) (gn h)) (ax_ldL I L (a + 483) (a + 1) j g h (gn g) (gc g) (gn h) (gc h)) (a + 483) (a + 1) j (gn g) (gn h) hC.work hC.state (by omega) hf_j (by repeat (first | exact ax_u_at _ _ _ _ | rw [ax_u_ne (by omega)] | rw [ax_u_nj (by decide)] | rw [ax_sc_ne (by omega)] | rw [ax_rem_ne (by omega) (by omega)] | unfold ax_ldI | unfold ax_woI | unfold ax_rxI | unfold ax_frI0 | unfold ax_frI1 | unfold ax_frI2 | rw [hI_ _ (by omega)] | rw [hN_ (by omega)])) (hgn g hl_j).2 (by repeat (first | exact ax_u_at _ _ _ _ | rw [ax_u_ne (by omega)] | rw [ax_u_nj (by decide)] | rw [ax_sc_ne (by omega)] | rw [ax_rem_ne (by omega) (by omega)] | unfold ax_ldI | unfold ax_woI | unfold ax_rxI | unfold ax_frI0 | unfold ax_frI1 | unfold ax_frI2 | rw [hI_ _ (by omega)] | rw [hN_ (by omega)])) (hgn h hm_j).2 (by omega)) mlX10_231 rfl rfl (by have h_ := hC.work.1; omega) hC.work.fld.1 ⟨by show d - 1 + 1 ≤ d; omega, by show 40 * (d - 1 + 1) ≤ 40 * d; omega⟩ ⟨Nat.le_refl _, Nat.le_refl _⟩ rfl (Nat.le_of_ble_eq_true rfl) (dk ddX10_part 28 rfl) ?_
  rintro v_ G_ I_ L_ ⟨rfl, rfl, rfl, rfl⟩
  refine x_aload_n C (dk ddX10_part 29 rfl) rfl ?_
  refine x_getr C flX10_59 rfl (by have h_ := hC.1; omega) hC.fld.1 (show ax_R G a 8 = some (a + 483) from hC.fld.2.2 (8, 483) (by decide)) (dk ddX10_part 30 rfl) ?_
  refine x_iload_n C (dk ddX10_part 31 rfl) rfl ?_
  refine x_aload_n C (dk ddX10_part 32 rfl) rfl ?_
  refine x_getr C flX10_79 rfl (by have h_ := hC.1; omega) hC.fld.1 (show ax_R G a 12 = some (a + 615) from hC.fld.2.2 (12, 615) (by decide)) (dk ddX10_part 33 rfl) ?_
  refine x_callV C (ci := 3) (As := [.int (nI 2), .ref (a + 615)]) (k_X3_fillRings_2 l D T o (d - 1) G (ax_woI (ax_ldI I (a + 483) (gn g) (gn h)) (a + 483) (gn g) (gn h)) (ax_woL (ax_ldI I (a + 483) (gn g) (gn h)) (ax_ldL I L (a + 483) (a + 1) j g h (gn g) (gc g) (gn h) (gc h)) (a + 483) (a + 1) j (gn g) (gn h)) (a + 483) (a + 615) (a + 616) (gn g) (gn h) hC.work hC.rings (by omega) (by repeat (first | exact ax_u_at _ _ _ _ | rw [ax_u_ne (by omega)] | rw [ax_u_nj (by decide)] | rw [ax_sc_ne (by omega)] | rw [ax_rem_ne (by omega) (by omega)] | unfold ax_ldI | unfold ax_woI | unfold ax_rxI | unfold ax_frI0 | unfold ax_frI1 | unfold ax_frI2 | rw [hI_ _ (by omega)] | rw [hN_ (by omega)])) (by omega) (by refine Eq.trans (b := nI ((gn h) + (gn g) - (gn h))) ?_ (congrArg nI (Nat.add_sub_cancel_left ..)); exact (by repeat (first | exact ax_u_at _ _ _ _ | rw [ax_u_ne (by omega)] | rw [ax_u_nj (by decide)] | rw [ax_sc_ne (by omega)] | rw [ax_rem_ne (by omega) (by omega)] | unfold ax_ldI | unfold ax_woI | unfold ax_rxI | unfold ax_frI0 | unfold ax_frI1 | unfold ax_frI2 | rw [hI_ _ (by omega)] | rw [hN_ (by omega)]))) (by repeat (first | exact ax_u_at _ _ _ _ | rw [ax_u_ne (by omega)] | rw [ax_u_nj (by decide)] | rw [ax_sc_ne (by omega)] | rw [ax_rem_ne (by omega) (by omega)] | unfold ax_ldI | unfold ax_woI | unfold ax_rxI | unfold ax_frI0 | unfold ax_frI1 | unfold ax_frI2 | rw [hI_ _ (by omega)] | rw [hN_ (by omega)])) (by omega) (by omega)) mlX10_249 rfl rfl (by have h_ := hC.work.1; omega) hC.work.fld.1 ⟨by show d - 1 + 1 ≤ d; omega, by show 40 * (d - 1 + 1) ≤ 40 * d; omega⟩ ⟨Nat.le_refl _, Nat.le_refl _⟩ rfl (Nat.le_of_ble_eq_true rfl) (dk ddX10_part 34 rfl) ?_
  rintro v_ G_ I_ L_ ⟨rfl, rfl, rfl, rfl⟩
  refine x_aload_n C (dk ddX10_part 35 rfl) rfl ?_
  refine x_getr C flX10_79 rfl (by have h_ := hC.1; omega) hC.fld.1 (show ax_R G a 12 = some (a + 615) from hC.fld.2.2 (12, 615) (by decide)) (dk ddX10_part 36 rfl) ?_
  refine x_iload_n C (dk ddX10_part 37 rfl) rfl ?_
  refine x_callS C (As := [.ref (a + 615), .int (-1)]) (k_X10_ownRing_many l D T o (d - 1) G (ax_frI2 (ax_woI (ax_ldI I (a + 483) (gn g) (gn h)) (a + 483) (gn g) (gn h)) (a + 615) (gn h)) (ax_frL2 (ax_woL (ax_ldI I (a + 483) (gn g) (gn h)) (ax_ldL I L (a + 483) (a + 1) j g h (gn g) (gc g) (gn h) (gc h)) (a + 483) (a + 1) j (gn g) (gn h)) (a + 483) (a + 616) (gn h)) (a + 615) (a + 616) (gn h) hC.rings (by repeat (first | exact ax_u_at _ _ _ _ | rw [ax_u_ne (by omega)] | rw [ax_u_nj (by decide)] | rw [ax_sc_ne (by omega)] | rw [ax_rem_ne (by omega) (by omega)] | unfold ax_ldI | unfold ax_woI | unfold ax_rxI | unfold ax_frI0 | unfold ax_frI1 | unfold ax_frI2 | rw [hI_ _ (by omega)] | rw [hN_ (by omega)])) (by omega) (by omega)) mlX10_179 ⟨by show d - 1 + 1 ≤ d; omega, by show 40 * (d - 1 + 1) ≤ 40 * d; omega⟩ ⟨Nat.le_refl _, Nat.le_refl _⟩ rfl (Nat.le_of_ble_eq_true rfl) (dk ddX10_part 38 rfl) ?_
  rintro v_ G_ I_ L_ ⟨rfl, rfl, rfl, rfl⟩
  exact x_iret C rfl ⟨rfl, rfl, rfl, rfl⟩ rfl rfl (dk ddX10_part 39 rfl)
set_option maxRecDepth 20000 in
/-- part, not well -/
theorem k_X10_part_no (l : Launch) (D : va_G) (T : Nat → ClassId) (o d : Nat) (G : ax_G) (I : ax_I) (L : ax_L) (a j g h u k : Nat) (gn gc : Nat → Nat) (hC : ax_Cls G a) (hgn : ∀ g, g < 6 → I (a + 1 + 1) g = nI (gn g) ∧ gn g ≤ 3) (hgc : ∀ g, g < 6 → I (a + 1 + 2) g = nI (gc g) ∧ gc g ≤ 4) (hf_j : j < 8) (hg_j : I (a + 1 + 4) j = nI g) (hl_j : g < 6) (hh_j : I (a + 1 + 5) j = nI h) (hm_j : h < 6) (hk : k < 2 ^ 31) (hu : u ≤ 2) (hw : ax_ldv I L (a + 483) (a + 1) j g h (gn g) (gc g) (gn h) (gc h) = false) (hd : 8 ≤ d) : ax_Con l D T o yX10_part cX10_part 4 (some .int) d 0 0 [.ref a, .int (nI j), .int (nI u), .int (nI k)] G I L (fun zz G' I' L' => zz = some (.int ((-4))) ∧ G = G' ∧ (ax_ldI I (a + 483) (gn g) (gn h)) = I' ∧ (ax_ldL I L (a + 483) (a + 1) j g h (gn g) (gc g) (gn h) (gc h)) = L') := by
  refine ax_enter (by decide +kernel) (Nat.le_of_ble_eq_true rfl) ?_
  intro p_ e_ s_ m_ args_ below_ meth_ c_ C _
  refine x_lvs (lv' := [(0, .ref a), (1, .int (nI j)), (2, .int (nI u)), (3, .int (nI k))]) rfl ?_
  have hb_ := (hgn g hl_j).2
  have hb2_ := (hgn h hm_j).2
  refine x_aload_n C (dk ddX10_part 0 rfl) rfl ?_
  refine x_iload_n C (dk ddX10_part 1 rfl) rfl ?_
  refine x_callV C (ci := 10) (As := [.int (nI j)]) (k_X10_isMap l D T o (d - 1) G I L a j hC (by omega) (by omega)) mlX10_218 rfl rfl (by have h_ := hC.1; omega) hC.fld.1 ⟨by show d - 1 + 1 ≤ d; omega, by show 40 * (d - 1 + 1) ≤ 40 * d; omega⟩ ⟨Nat.le_refl _, Nat.le_refl _⟩ rfl (Nat.le_of_ble_eq_true rfl) (dk ddX10_part 2 rfl) ?_
  rintro v_ G_ I_ L_ ⟨rfl, rfl, rfl, rfl⟩
  rw [show (!decide (I (a + 1 + 4) j = -1)) = true from by rw [show I (a + 1 + 4) j = nI g from (by repeat (first | exact ax_u_at _ _ _ _ | exact hg_j | rw [ax_u_ne (by omega)] | rw [ax_u_nj (by decide)] | rw [ax_sc_ne (by omega)] | rw [ax_rem_ne (by omega) (by omega)] | unfold ax_ldI | unfold ax_woI | unfold ax_rxI | unfold ax_frI0 | unfold ax_frI1 | unfold ax_frI2 | rw [hI_ _ (by omega)] | rw [hN_ (by omega)]))]; exact ax_hm hl_j]
  refine x_if_eq_b C (tgt := 22) (dk ddX10_part 3 rfl) (by decide) (fun h_ => absurd h_ (by decide)) (fun _ => ?_)
  refine x_iload_n C (dk ddX10_part 4 rfl) rfl ?_
  refine x_if_lt_n C (tgt := 22) (dk ddX10_part 5 rfl) (by decide) (by omega) (fun h9 => ?_) (fun h9 => ?_)
  · exfalso
    omega
  · refine x_iload_n C (dk ddX10_part 6 rfl) rfl ?_
    refine x_iconst C (v := nI 2) (dk ddX10_part 7 rfl) (by decide) ?_
    refine x_icmp_gt_n C (tgt := 22) (dk ddX10_part 8 rfl) (by decide) (by omega) (by decide) (fun h14 => ?_) (fun h14 => ?_)
    · exfalso
      omega
    · refine x_iload_n C (dk ddX10_part 9 rfl) rfl ?_
      refine x_iconst C (v := (-1)) (dk ddX10_part 10 rfl) (by decide) ?_
      refine x_icmp_ge C (tgt := 24) (dk ddX10_part 11 rfl) (by decide) (fun h19 => ?_) (fun h19 => ?_)
      · have h19c := Int32.not_lt.mpr h19
        refine x_aload_n C (dk ddX10_part 14 rfl) rfl ?_
        refine x_getr C flX10_59 rfl (by have h_ := hC.1; omega) hC.fld.1 (show ax_R G a 8 = some (a + 483) from hC.fld.2.2 (8, 483) (by decide)) (dk ddX10_part 15 rfl) ?_
        refine x_aload_n C (dk ddX10_part 16 rfl) rfl ?_
        refine x_getr C flX10_10 rfl (by have h_ := hC.1; omega) hC.fld.1 (show ax_R G a 0 = some (a + 1) from hC.fld.2.2 (0, 1) (by decide)) (dk ddX10_part 17 rfl) ?_
        refine x_iload_n C (dk ddX10_part 18 rfl) rfl ?_
        refine x_callV C (ci := 3) (As := [.ref (a + 1), .int (nI j)]) (k_X3_load l D T o (d - 1) G I L (a + 483) (a + 1) j g h (gn g) (gc g) (gn h) (gc h) hC.work hC.state (by omega) hf_j (by repeat (first | exact ax_u_at _ _ _ _ | exact hg_j | rw [ax_u_ne (by omega)] | rw [ax_u_nj (by decide)] | rw [ax_sc_ne (by omega)] | rw [ax_rem_ne (by omega) (by omega)] | unfold ax_ldI | unfold ax_woI | unfold ax_rxI | unfold ax_frI0 | unfold ax_frI1 | unfold ax_frI2 | rw [hI_ _ (by omega)] | rw [hN_ (by omega)])) hl_j (by repeat (first | exact ax_u_at _ _ _ _ | exact hh_j | rw [ax_u_ne (by omega)] | rw [ax_u_nj (by decide)] | rw [ax_sc_ne (by omega)] | rw [ax_rem_ne (by omega) (by omega)] | unfold ax_ldI | unfold ax_woI | unfold ax_rxI | unfold ax_frI0 | unfold ax_frI1 | unfold ax_frI2 | rw [hI_ _ (by omega)] | rw [hN_ (by omega)])) hm_j (by repeat (first | exact ax_u_at _ _ _ _ | exact (hgn g hl_j).1 | rw [ax_u_ne (by omega)] | rw [ax_u_nj (by decide)] | rw [ax_sc_ne (by omega)] | rw [ax_rem_ne (by omega) (by omega)] | unfold ax_ldI | unfold ax_woI | unfold ax_rxI | unfold ax_frI0 | unfold ax_frI1 | unfold ax_frI2 | rw [hI_ _ (by omega)] | rw [hN_ (by omega)])) (hgn g hl_j).2 (by repeat (first | exact ax_u_at _ _ _ _ | exact (hgc g hl_j).1 | rw [ax_u_ne (by omega)] | rw [ax_u_nj (by decide)] | rw [ax_sc_ne (by omega)] | rw [ax_rem_ne (by omega) (by omega)] | unfold ax_ldI | unfold ax_woI | unfold ax_rxI | unfold ax_frI0 | unfold ax_frI1 | unfold ax_frI2 | rw [hI_ _ (by omega)] | rw [hN_ (by omega)])) (hgc g hl_j).2 (by repeat (first | exact ax_u_at _ _ _ _ | exact (hgn h hm_j).1 | rw [ax_u_ne (by omega)] | rw [ax_u_nj (by decide)] | rw [ax_sc_ne (by omega)] | rw [ax_rem_ne (by omega) (by omega)] | unfold ax_ldI | unfold ax_woI | unfold ax_rxI | unfold ax_frI0 | unfold ax_frI1 | unfold ax_frI2 | rw [hI_ _ (by omega)] | rw [hN_ (by omega)])) (hgn h hm_j).2 (by repeat (first | exact ax_u_at _ _ _ _ | exact (hgc h hm_j).1 | rw [ax_u_ne (by omega)] | rw [ax_u_nj (by decide)] | rw [ax_sc_ne (by omega)] | rw [ax_rem_ne (by omega) (by omega)] | unfold ax_ldI | unfold ax_woI | unfold ax_rxI | unfold ax_frI0 | unfold ax_frI1 | unfold ax_frI2 | rw [hI_ _ (by omega)] | rw [hN_ (by omega)])) (hgc h hm_j).2 (by omega)) mlX10_227 rfl rfl (by have h_ := hC.work.1; omega) hC.work.fld.1 ⟨by show d - 1 + 1 ≤ d; omega, by show 40 * (d - 1 + 1) ≤ 40 * d; omega⟩ ⟨Nat.le_refl _, Nat.le_refl _⟩ rfl (Nat.le_of_ble_eq_true rfl) (dk ddX10_part 19 rfl) ?_
        rintro v_ G_ I_ L_ ⟨rfl, rfl, rfl, rfl⟩
        rw [show (ax_ldv I L (a + 483) (a + 1) j g h (gn g) (gc g) (gn h) (gc h)) = false from hw]
        refine x_if_ne_b C (tgt := 42) (dk ddX10_part 20 rfl) (by decide) (fun h_ => absurd h_ (by decide)) (fun _ => ?_)
        refine x_bipush C (v := (-4)) (dk ddX10_part 21 rfl) (by decide) ?_
        exact x_iret C rfl ⟨rfl, rfl, rfl, rfl⟩ rfl rfl (dk ddX10_part 22 rfl)
      · have h19c := Int32.not_le.mp h19
        exfalso
        exact absurd (Int32.not_le.mp h19) (ax_nn1 (by omega))
def ax_paI0 (I : ax_I) (L : ax_L) (a : Nat) (j : Nat) (g : Nat) (h : Nat) (gn : Nat → Nat) (gc : Nat → Nat) : ax_I := ax_frI0 (ax_woI (ax_ldI I (a + 483) (gn g) (gn h)) (a + 483) (gn g) (gn h)) (ax_woL (ax_ldI I (a + 483) (gn g) (gn h)) (ax_ldL I L (a + 483) (a + 1) j g h (gn g) (gc g) (gn h) (gc h)) (a + 483) (a + 1) j (gn g) (gn h)) (a + 483) (a + 615) (gn g)
def ax_paL0 (I : ax_I) (L : ax_L) (a : Nat) (j : Nat) (g : Nat) (h : Nat) (gn : Nat → Nat) (gc : Nat → Nat) : ax_L := ax_frL0 (ax_woL (ax_ldI I (a + 483) (gn g) (gn h)) (ax_ldL I L (a + 483) (a + 1) j g h (gn g) (gc g) (gn h) (gc h)) (a + 483) (a + 1) j (gn g) (gn h)) (a + 483) (a + 616) (gn g)
def ax_pav0 (I : ax_I) (L : ax_L) (a : Nat) (j : Nat) (g : Nat) (h : Nat) (k : Nat) (gn : Nat → Nat) (gc : Nat → Nat) : Int32 := if ax_cn ((ax_frL0 (ax_woL (ax_ldI I (a + 483) (gn g) (gn h)) (ax_ldL I L (a + 483) (a + 1) j g h (gn g) (gc g) (gn h) (gc h)) (a + 483) (a + 1) j (gn g) (gn h)) (a + 483) (a + 616) (gn g)) (a + 616)) (ax_rkc (a + 483 + 28) (ax_woL (ax_ldI I (a + 483) (gn g) (gn h)) (ax_ldL I L (a + 483) (a + 1) j g h (gn g) (gc g) (gn h) (gc h)) (a + 483) (a + 1) j (gn g) (gn h)) (gn g)) ≤ k then (-3) else (ax_owc ((ax_frL0 (ax_woL (ax_ldI I (a + 483) (gn g) (gn h)) (ax_ldL I L (a + 483) (a + 1) j g h (gn g) (gc g) (gn h) (gc h)) (a + 483) (a + 1) j (gn g) (gn h)) (a + 483) (a + 616) (gn g)) (a + 616)) (ax_rkc (a + 483 + 28) (ax_woL (ax_ldI I (a + 483) (gn g) (gn h)) (ax_ldL I L (a + 483) (a + 1) j g h (gn g) (gc g) (gn h) (gc h)) (a + 483) (a + 1) j (gn g) (gn h)) (gn g)) k).toInt32
set_option maxRecDepth 20000 in
/-- part(j, 0, ..) -/
theorem k_X10_part_0 (l : Launch) (D : va_G) (T : Nat → ClassId) (o d : Nat) (G : ax_G) (I : ax_I) (L : ax_L) (a j g h k : Nat) (gn gc : Nat → Nat) (hC : ax_Cls G a) (hgn : ∀ g, g < 6 → I (a + 1 + 1) g = nI (gn g) ∧ gn g ≤ 3) (hgc : ∀ g, g < 6 → I (a + 1 + 2) g = nI (gc g) ∧ gc g ≤ 4) (hf_j : j < 8) (hg_j : I (a + 1 + 4) j = nI g) (hl_j : g < 6) (hh_j : I (a + 1 + 5) j = nI h) (hm_j : h < 6) (hk : k < 2 ^ 31) (hw : ax_ldv I L (a + 483) (a + 1) j g h (gn g) (gc g) (gn h) (gc h) = true) (hd : 8 ≤ d) : ax_Con l D T o yX10_part cX10_part 4 (some .int) d 0 0 [.ref a, .int (nI j), .int (nI 0), .int (nI k)] G I L (fun zz G' I' L' => zz = some (.int (ax_pav0 I L a j g h k gn gc)) ∧ G = G' ∧ (ax_paI0 I L a j g h gn gc) = I' ∧ (ax_paL0 I L a j g h gn gc) = L') := by
  refine ax_enter (by decide +kernel) (Nat.le_of_ble_eq_true rfl) ?_
  intro p_ e_ s_ m_ args_ below_ meth_ c_ C _
  refine x_lvs (lv' := [(0, .ref a), (1, .int (nI j)), (2, .int (nI 0)), (3, .int (nI k))]) rfl ?_
  have hb_ := (hgn g hl_j).2
  have hb2_ := (hgn h hm_j).2
  refine x_aload_n C (dk ddX10_part 0 rfl) rfl ?_
  refine x_iload_n C (dk ddX10_part 1 rfl) rfl ?_
  refine x_callV C (ci := 10) (As := [.int (nI j)]) (k_X10_isMap l D T o (d - 1) G I L a j hC (by omega) (by omega)) mlX10_218 rfl rfl (by have h_ := hC.1; omega) hC.fld.1 ⟨by show d - 1 + 1 ≤ d; omega, by show 40 * (d - 1 + 1) ≤ 40 * d; omega⟩ ⟨Nat.le_refl _, Nat.le_refl _⟩ rfl (Nat.le_of_ble_eq_true rfl) (dk ddX10_part 2 rfl) ?_
  rintro v_ G_ I_ L_ ⟨rfl, rfl, rfl, rfl⟩
  rw [show (!decide (I (a + 1 + 4) j = -1)) = true from by rw [show I (a + 1 + 4) j = nI g from (by repeat (first | exact ax_u_at _ _ _ _ | exact hg_j | rw [ax_u_ne (by omega)] | rw [ax_u_nj (by decide)] | rw [ax_sc_ne (by omega)] | rw [ax_rem_ne (by omega) (by omega)] | unfold ax_ldI | unfold ax_woI | unfold ax_rxI | unfold ax_frI0 | unfold ax_frI1 | unfold ax_frI2 | rw [hI_ _ (by omega)] | rw [hN_ (by omega)]))]; exact ax_hm hl_j]
  refine x_if_eq_b C (tgt := 22) (dk ddX10_part 3 rfl) (by decide) (fun h_ => absurd h_ (by decide)) (fun _ => ?_)
  refine x_iload_n C (dk ddX10_part 4 rfl) rfl ?_
  refine x_if_lt_n C (tgt := 22) (dk ddX10_part 5 rfl) (by decide) (by decide) (fun h_ => absurd h_ (by decide)) (fun _ => ?_)
  refine x_iload_n C (dk ddX10_part 6 rfl) rfl ?_
  refine x_iconst C (v := nI 2) (dk ddX10_part 7 rfl) (by decide) ?_
  refine x_icmp_gt_n C (tgt := 22) (dk ddX10_part 8 rfl) (by decide) (by decide) (by decide) (fun h_ => absurd h_ (by decide)) (fun _ => ?_)
  refine x_iload_n C (dk ddX10_part 9 rfl) rfl ?_
  refine x_iconst C (v := (-1)) (dk ddX10_part 10 rfl) (by decide) ?_
  refine x_icmp_ge C (tgt := 24) (dk ddX10_part 11 rfl) (by decide) (fun h19 => ?_) (fun h19 => ?_)
  · have h19c := Int32.not_lt.mpr h19
    refine x_aload_n C (dk ddX10_part 14 rfl) rfl ?_
    refine x_getr C flX10_59 rfl (by have h_ := hC.1; omega) hC.fld.1 (show ax_R G a 8 = some (a + 483) from hC.fld.2.2 (8, 483) (by decide)) (dk ddX10_part 15 rfl) ?_
    refine x_aload_n C (dk ddX10_part 16 rfl) rfl ?_
    refine x_getr C flX10_10 rfl (by have h_ := hC.1; omega) hC.fld.1 (show ax_R G a 0 = some (a + 1) from hC.fld.2.2 (0, 1) (by decide)) (dk ddX10_part 17 rfl) ?_
    refine x_iload_n C (dk ddX10_part 18 rfl) rfl ?_
    refine x_callV C (ci := 3) (As := [.ref (a + 1), .int (nI j)]) (k_X3_load l D T o (d - 1) G I L (a + 483) (a + 1) j g h (gn g) (gc g) (gn h) (gc h) hC.work hC.state (by omega) hf_j (by repeat (first | exact ax_u_at _ _ _ _ | exact hg_j | rw [ax_u_ne (by omega)] | rw [ax_u_nj (by decide)] | rw [ax_sc_ne (by omega)] | rw [ax_rem_ne (by omega) (by omega)] | unfold ax_ldI | unfold ax_woI | unfold ax_rxI | unfold ax_frI0 | unfold ax_frI1 | unfold ax_frI2 | rw [hI_ _ (by omega)] | rw [hN_ (by omega)])) hl_j (by repeat (first | exact ax_u_at _ _ _ _ | exact hh_j | rw [ax_u_ne (by omega)] | rw [ax_u_nj (by decide)] | rw [ax_sc_ne (by omega)] | rw [ax_rem_ne (by omega) (by omega)] | unfold ax_ldI | unfold ax_woI | unfold ax_rxI | unfold ax_frI0 | unfold ax_frI1 | unfold ax_frI2 | rw [hI_ _ (by omega)] | rw [hN_ (by omega)])) hm_j (by repeat (first | exact ax_u_at _ _ _ _ | exact (hgn g hl_j).1 | rw [ax_u_ne (by omega)] | rw [ax_u_nj (by decide)] | rw [ax_sc_ne (by omega)] | rw [ax_rem_ne (by omega) (by omega)] | unfold ax_ldI | unfold ax_woI | unfold ax_rxI | unfold ax_frI0 | unfold ax_frI1 | unfold ax_frI2 | rw [hI_ _ (by omega)] | rw [hN_ (by omega)])) (hgn g hl_j).2 (by repeat (first | exact ax_u_at _ _ _ _ | exact (hgc g hl_j).1 | rw [ax_u_ne (by omega)] | rw [ax_u_nj (by decide)] | rw [ax_sc_ne (by omega)] | rw [ax_rem_ne (by omega) (by omega)] | unfold ax_ldI | unfold ax_woI | unfold ax_rxI | unfold ax_frI0 | unfold ax_frI1 | unfold ax_frI2 | rw [hI_ _ (by omega)] | rw [hN_ (by omega)])) (hgc g hl_j).2 (by repeat (first | exact ax_u_at _ _ _ _ | exact (hgn h hm_j).1 | rw [ax_u_ne (by omega)] | rw [ax_u_nj (by decide)] | rw [ax_sc_ne (by omega)] | rw [ax_rem_ne (by omega) (by omega)] | unfold ax_ldI | unfold ax_woI | unfold ax_rxI | unfold ax_frI0 | unfold ax_frI1 | unfold ax_frI2 | rw [hI_ _ (by omega)] | rw [hN_ (by omega)])) (hgn h hm_j).2 (by repeat (first | exact ax_u_at _ _ _ _ | exact (hgc h hm_j).1 | rw [ax_u_ne (by omega)] | rw [ax_u_nj (by decide)] | rw [ax_sc_ne (by omega)] | rw [ax_rem_ne (by omega) (by omega)] | unfold ax_ldI | unfold ax_woI | unfold ax_rxI | unfold ax_frI0 | unfold ax_frI1 | unfold ax_frI2 | rw [hI_ _ (by omega)] | rw [hN_ (by omega)])) (hgc h hm_j).2 (by omega)) mlX10_227 rfl rfl (by have h_ := hC.work.1; omega) hC.work.fld.1 ⟨by show d - 1 + 1 ≤ d; omega, by show 40 * (d - 1 + 1) ≤ 40 * d; omega⟩ ⟨Nat.le_refl _, Nat.le_refl _⟩ rfl (Nat.le_of_ble_eq_true rfl) (dk ddX10_part 19 rfl) ?_
    rintro v_ G_ I_ L_ ⟨rfl, rfl, rfl, rfl⟩
    rw [show (ax_ldv I L (a + 483) (a + 1) j g h (gn g) (gc g) (gn h) (gc h)) = true from hw]
    refine x_if_ne_b C (tgt := 42) (dk ddX10_part 20 rfl) (by decide) (fun _ => ?_) (fun h_ => absurd h_ (by decide))
    refine x_aload_n C (dk ddX10_part 23 rfl) rfl ?_
    refine x_getr C flX10_59 rfl (by have h_ := hC.1; omega) hC.fld.1 (show ax_R G a 8 = some (a + 483) from hC.fld.2.2 (8, 483) (by decide)) (dk ddX10_part 24 rfl) ?_
    refine x_aload_n C (dk ddX10_part 25 rfl) rfl ?_
    refine x_getr C flX10_10 rfl (by have h_ := hC.1; omega) hC.fld.1 (show ax_R G a 0 = some (a + 1) from hC.fld.2.2 (0, 1) (by decide)) (dk ddX10_part 26 rfl) ?_
    refine x_iload_n C (dk ddX10_part 27 rfl) rfl ?_
    refine x_callV C (ci := 3) (As := [.ref (a + 1), .int (nI j)]) (k_X3_workOut l D T o (d - 1) G (ax_ldI I (a + 483) (gn g) (gn h)) (ax_ldL I L (a + 483) (a + 1) j g h (gn g) (gc g) (gn h) (gc h)) (a + 483) (a + 1) j (gn g) (gn h) hC.work hC.state (by omega) hf_j (by repeat (first | exact ax_u_at _ _ _ _ | rw [ax_u_ne (by omega)] | rw [ax_u_nj (by decide)] | rw [ax_sc_ne (by omega)] | rw [ax_rem_ne (by omega) (by omega)] | unfold ax_ldI | unfold ax_woI | unfold ax_rxI | unfold ax_frI0 | unfold ax_frI1 | unfold ax_frI2 | rw [hI_ _ (by omega)] | rw [hN_ (by omega)])) (hgn g hl_j).2 (by repeat (first | exact ax_u_at _ _ _ _ | rw [ax_u_ne (by omega)] | rw [ax_u_nj (by decide)] | rw [ax_sc_ne (by omega)] | rw [ax_rem_ne (by omega) (by omega)] | unfold ax_ldI | unfold ax_woI | unfold ax_rxI | unfold ax_frI0 | unfold ax_frI1 | unfold ax_frI2 | rw [hI_ _ (by omega)] | rw [hN_ (by omega)])) (hgn h hm_j).2 (by omega)) mlX10_231 rfl rfl (by have h_ := hC.work.1; omega) hC.work.fld.1 ⟨by show d - 1 + 1 ≤ d; omega, by show 40 * (d - 1 + 1) ≤ 40 * d; omega⟩ ⟨Nat.le_refl _, Nat.le_refl _⟩ rfl (Nat.le_of_ble_eq_true rfl) (dk ddX10_part 28 rfl) ?_
    rintro v_ G_ I_ L_ ⟨rfl, rfl, rfl, rfl⟩
    refine x_aload_n C (dk ddX10_part 29 rfl) rfl ?_
    refine x_getr C flX10_59 rfl (by have h_ := hC.1; omega) hC.fld.1 (show ax_R G a 8 = some (a + 483) from hC.fld.2.2 (8, 483) (by decide)) (dk ddX10_part 30 rfl) ?_
    refine x_iload_n C (dk ddX10_part 31 rfl) rfl ?_
    refine x_aload_n C (dk ddX10_part 32 rfl) rfl ?_
    refine x_getr C flX10_79 rfl (by have h_ := hC.1; omega) hC.fld.1 (show ax_R G a 12 = some (a + 615) from hC.fld.2.2 (12, 615) (by decide)) (dk ddX10_part 33 rfl) ?_
    have hrk_ := ax_rkc_le (a + 483 + 28) (ax_woL (ax_ldI I (a + 483) (gn g) (gn h)) (ax_ldL I L (a + 483) (a + 1) j g h (gn g) (gc g) (gn h) (gc h)) (a + 483) (a + 1) j (gn g) (gn h)) (gn g)
    refine x_callV C (ci := 3) (As := [.int (nI 0), .ref (a + 615)]) (k_X3_fillRings_0 l D T o (d - 1) G (ax_woI (ax_ldI I (a + 483) (gn g) (gn h)) (a + 483) (gn g) (gn h)) (ax_woL (ax_ldI I (a + 483) (gn g) (gn h)) (ax_ldL I L (a + 483) (a + 1) j g h (gn g) (gc g) (gn h) (gc h)) (a + 483) (a + 1) j (gn g) (gn h)) (a + 483) (a + 615) (a + 616) (gn g) (gn h) hC.work hC.rings (by omega) (by repeat (first | exact ax_u_at _ _ _ _ | rw [ax_u_ne (by omega)] | rw [ax_u_nj (by decide)] | rw [ax_sc_ne (by omega)] | rw [ax_rem_ne (by omega) (by omega)] | unfold ax_ldI | unfold ax_woI | unfold ax_rxI | unfold ax_frI0 | unfold ax_frI1 | unfold ax_frI2 | rw [hI_ _ (by omega)] | rw [hN_ (by omega)])) (by omega) (by refine Eq.trans (b := nI ((gn h) + (gn g) - (gn h))) ?_ (congrArg nI (Nat.add_sub_cancel_left ..)); exact (by repeat (first | exact ax_u_at _ _ _ _ | rw [ax_u_ne (by omega)] | rw [ax_u_nj (by decide)] | rw [ax_sc_ne (by omega)] | rw [ax_rem_ne (by omega) (by omega)] | unfold ax_ldI | unfold ax_woI | unfold ax_rxI | unfold ax_frI0 | unfold ax_frI1 | unfold ax_frI2 | rw [hI_ _ (by omega)] | rw [hN_ (by omega)]))) (by repeat (first | exact ax_u_at _ _ _ _ | rw [ax_u_ne (by omega)] | rw [ax_u_nj (by decide)] | rw [ax_sc_ne (by omega)] | rw [ax_rem_ne (by omega) (by omega)] | unfold ax_ldI | unfold ax_woI | unfold ax_rxI | unfold ax_frI0 | unfold ax_frI1 | unfold ax_frI2 | rw [hI_ _ (by omega)] | rw [hN_ (by omega)])) (by omega) (by omega)) mlX10_249 rfl rfl (by have h_ := hC.work.1; omega) hC.work.fld.1 ⟨by show d - 1 + 1 ≤ d; omega, by show 40 * (d - 1 + 1) ≤ 40 * d; omega⟩ ⟨Nat.le_refl _, Nat.le_refl _⟩ rfl (Nat.le_of_ble_eq_true rfl) (dk ddX10_part 34 rfl) ?_
    rintro v_ G_ I_ L_ ⟨rfl, rfl, rfl, rfl⟩
    refine x_aload_n C (dk ddX10_part 35 rfl) rfl ?_
    refine x_getr C flX10_79 rfl (by have h_ := hC.1; omega) hC.fld.1 (show ax_R G a 12 = some (a + 615) from hC.fld.2.2 (12, 615) (by decide)) (dk ddX10_part 36 rfl) ?_
    refine x_iload_n C (dk ddX10_part 37 rfl) rfl ?_
    refine x_callS C (As := [.ref (a + 615), .int (nI k)]) (k_X10_ownRing l D T o (d - 1) G (ax_frI0 (ax_woI (ax_ldI I (a + 483) (gn g) (gn h)) (a + 483) (gn g) (gn h)) (ax_woL (ax_ldI I (a + 483) (gn g) (gn h)) (ax_ldL I L (a + 483) (a + 1) j g h (gn g) (gc g) (gn h) (gc h)) (a + 483) (a + 1) j (gn g) (gn h)) (a + 483) (a + 615) (gn g)) (ax_frL0 (ax_woL (ax_ldI I (a + 483) (gn g) (gn h)) (ax_ldL I L (a + 483) (a + 1) j g h (gn g) (gc g) (gn h) (gc h)) (a + 483) (a + 1) j (gn g) (gn h)) (a + 483) (a + 616) (gn g)) (a + 615) (a + 616) (ax_rkc (a + 483 + 28) (ax_woL (ax_ldI I (a + 483) (gn g) (gn h)) (ax_ldL I L (a + 483) (a + 1) j g h (gn g) (gc g) (gn h) (gc h)) (a + 483) (a + 1) j (gn g) (gn h)) (gn g)) k hC.rings (by repeat (first | exact ax_u_at _ _ _ _ | rw [ax_u_ne (by omega)] | rw [ax_u_nj (by decide)] | rw [ax_sc_ne (by omega)] | rw [ax_rem_ne (by omega) (by omega)] | unfold ax_ldI | unfold ax_woI | unfold ax_rxI | unfold ax_frI0 | unfold ax_frI1 | unfold ax_frI2 | rw [hI_ _ (by omega)] | rw [hN_ (by omega)])) (by omega) (by omega) (by omega)) mlX10_179 ⟨by show d - 1 + 1 ≤ d; omega, by show 40 * (d - 1 + 1) ≤ 40 * d; omega⟩ ⟨Nat.le_refl _, Nat.le_refl _⟩ rfl (Nat.le_of_ble_eq_true rfl) (dk ddX10_part 38 rfl) ?_
    rintro v_ G_ I_ L_ ⟨rfl, rfl, rfl, rfl⟩
    exact x_iret C rfl ⟨rfl, rfl, rfl, rfl⟩ rfl rfl (dk ddX10_part 39 rfl)
  · have h19c := Int32.not_le.mp h19
    exfalso
    exact absurd (Int32.not_le.mp h19) (ax_nn1 (by omega))
def ax_paI1 (I : ax_I) (a : Nat) (g : Nat) (h : Nat) (gn : Nat → Nat) : ax_I := ax_frI1 (ax_woI (ax_ldI I (a + 483) (gn g) (gn h)) (a + 483) (gn g) (gn h)) (a + 615) (gn g)
def ax_paL1 (I : ax_I) (L : ax_L) (a : Nat) (j : Nat) (g : Nat) (h : Nat) (gn : Nat → Nat) (gc : Nat → Nat) : ax_L := ax_frL1 (ax_woL (ax_ldI I (a + 483) (gn g) (gn h)) (ax_ldL I L (a + 483) (a + 1) j g h (gn g) (gc g) (gn h) (gc h)) (a + 483) (a + 1) j (gn g) (gn h)) (a + 483) (a + 616) (gn g)
def ax_pav1 (I : ax_I) (L : ax_L) (a : Nat) (j : Nat) (g : Nat) (h : Nat) (k : Nat) (gn : Nat → Nat) (gc : Nat → Nat) : Int32 := if ax_cn ((ax_frL1 (ax_woL (ax_ldI I (a + 483) (gn g) (gn h)) (ax_ldL I L (a + 483) (a + 1) j g h (gn g) (gc g) (gn h) (gc h)) (a + 483) (a + 1) j (gn g) (gn h)) (a + 483) (a + 616) (gn g)) (a + 616)) (gn g) ≤ k then (-3) else (ax_owc ((ax_frL1 (ax_woL (ax_ldI I (a + 483) (gn g) (gn h)) (ax_ldL I L (a + 483) (a + 1) j g h (gn g) (gc g) (gn h) (gc h)) (a + 483) (a + 1) j (gn g) (gn h)) (a + 483) (a + 616) (gn g)) (a + 616)) (gn g) k).toInt32
set_option maxRecDepth 20000 in
/-- part(j, 1, ..) -/
theorem k_X10_part_1 (l : Launch) (D : va_G) (T : Nat → ClassId) (o d : Nat) (G : ax_G) (I : ax_I) (L : ax_L) (a j g h k : Nat) (gn gc : Nat → Nat) (hC : ax_Cls G a) (hgn : ∀ g, g < 6 → I (a + 1 + 1) g = nI (gn g) ∧ gn g ≤ 3) (hgc : ∀ g, g < 6 → I (a + 1 + 2) g = nI (gc g) ∧ gc g ≤ 4) (hf_j : j < 8) (hg_j : I (a + 1 + 4) j = nI g) (hl_j : g < 6) (hh_j : I (a + 1 + 5) j = nI h) (hm_j : h < 6) (hk : k < 2 ^ 31) (hw : ax_ldv I L (a + 483) (a + 1) j g h (gn g) (gc g) (gn h) (gc h) = true) (hd : 8 ≤ d) : ax_Con l D T o yX10_part cX10_part 4 (some .int) d 0 0 [.ref a, .int (nI j), .int (nI 1), .int (nI k)] G I L (fun zz G' I' L' => zz = some (.int (ax_pav1 I L a j g h k gn gc)) ∧ G = G' ∧ (ax_paI1 I a g h gn) = I' ∧ (ax_paL1 I L a j g h gn gc) = L') := by
  refine ax_enter (by decide +kernel) (Nat.le_of_ble_eq_true rfl) ?_
  intro p_ e_ s_ m_ args_ below_ meth_ c_ C _
  refine x_lvs (lv' := [(0, .ref a), (1, .int (nI j)), (2, .int (nI 1)), (3, .int (nI k))]) rfl ?_
  have hb_ := (hgn g hl_j).2
  have hb2_ := (hgn h hm_j).2
  refine x_aload_n C (dk ddX10_part 0 rfl) rfl ?_
  refine x_iload_n C (dk ddX10_part 1 rfl) rfl ?_
  refine x_callV C (ci := 10) (As := [.int (nI j)]) (k_X10_isMap l D T o (d - 1) G I L a j hC (by omega) (by omega)) mlX10_218 rfl rfl (by have h_ := hC.1; omega) hC.fld.1 ⟨by show d - 1 + 1 ≤ d; omega, by show 40 * (d - 1 + 1) ≤ 40 * d; omega⟩ ⟨Nat.le_refl _, Nat.le_refl _⟩ rfl (Nat.le_of_ble_eq_true rfl) (dk ddX10_part 2 rfl) ?_
  rintro v_ G_ I_ L_ ⟨rfl, rfl, rfl, rfl⟩
  rw [show (!decide (I (a + 1 + 4) j = -1)) = true from by rw [show I (a + 1 + 4) j = nI g from (by repeat (first | exact ax_u_at _ _ _ _ | exact hg_j | rw [ax_u_ne (by omega)] | rw [ax_u_nj (by decide)] | rw [ax_sc_ne (by omega)] | rw [ax_rem_ne (by omega) (by omega)] | unfold ax_ldI | unfold ax_woI | unfold ax_rxI | unfold ax_frI0 | unfold ax_frI1 | unfold ax_frI2 | rw [hI_ _ (by omega)] | rw [hN_ (by omega)]))]; exact ax_hm hl_j]
  refine x_if_eq_b C (tgt := 22) (dk ddX10_part 3 rfl) (by decide) (fun h_ => absurd h_ (by decide)) (fun _ => ?_)
  refine x_iload_n C (dk ddX10_part 4 rfl) rfl ?_
  refine x_if_lt_n C (tgt := 22) (dk ddX10_part 5 rfl) (by decide) (by decide) (fun h_ => absurd h_ (by decide)) (fun _ => ?_)
  refine x_iload_n C (dk ddX10_part 6 rfl) rfl ?_
  refine x_iconst C (v := nI 2) (dk ddX10_part 7 rfl) (by decide) ?_
  refine x_icmp_gt_n C (tgt := 22) (dk ddX10_part 8 rfl) (by decide) (by decide) (by decide) (fun h_ => absurd h_ (by decide)) (fun _ => ?_)
  refine x_iload_n C (dk ddX10_part 9 rfl) rfl ?_
  refine x_iconst C (v := (-1)) (dk ddX10_part 10 rfl) (by decide) ?_
  refine x_icmp_ge C (tgt := 24) (dk ddX10_part 11 rfl) (by decide) (fun h19 => ?_) (fun h19 => ?_)
  · have h19c := Int32.not_lt.mpr h19
    refine x_aload_n C (dk ddX10_part 14 rfl) rfl ?_
    refine x_getr C flX10_59 rfl (by have h_ := hC.1; omega) hC.fld.1 (show ax_R G a 8 = some (a + 483) from hC.fld.2.2 (8, 483) (by decide)) (dk ddX10_part 15 rfl) ?_
    refine x_aload_n C (dk ddX10_part 16 rfl) rfl ?_
    refine x_getr C flX10_10 rfl (by have h_ := hC.1; omega) hC.fld.1 (show ax_R G a 0 = some (a + 1) from hC.fld.2.2 (0, 1) (by decide)) (dk ddX10_part 17 rfl) ?_
    refine x_iload_n C (dk ddX10_part 18 rfl) rfl ?_
    refine x_callV C (ci := 3) (As := [.ref (a + 1), .int (nI j)]) (k_X3_load l D T o (d - 1) G I L (a + 483) (a + 1) j g h (gn g) (gc g) (gn h) (gc h) hC.work hC.state (by omega) hf_j (by repeat (first | exact ax_u_at _ _ _ _ | exact hg_j | rw [ax_u_ne (by omega)] | rw [ax_u_nj (by decide)] | rw [ax_sc_ne (by omega)] | rw [ax_rem_ne (by omega) (by omega)] | unfold ax_ldI | unfold ax_woI | unfold ax_rxI | unfold ax_frI0 | unfold ax_frI1 | unfold ax_frI2 | rw [hI_ _ (by omega)] | rw [hN_ (by omega)])) hl_j (by repeat (first | exact ax_u_at _ _ _ _ | exact hh_j | rw [ax_u_ne (by omega)] | rw [ax_u_nj (by decide)] | rw [ax_sc_ne (by omega)] | rw [ax_rem_ne (by omega) (by omega)] | unfold ax_ldI | unfold ax_woI | unfold ax_rxI | unfold ax_frI0 | unfold ax_frI1 | unfold ax_frI2 | rw [hI_ _ (by omega)] | rw [hN_ (by omega)])) hm_j (by repeat (first | exact ax_u_at _ _ _ _ | exact (hgn g hl_j).1 | rw [ax_u_ne (by omega)] | rw [ax_u_nj (by decide)] | rw [ax_sc_ne (by omega)] | rw [ax_rem_ne (by omega) (by omega)] | unfold ax_ldI | unfold ax_woI | unfold ax_rxI | unfold ax_frI0 | unfold ax_frI1 | unfold ax_frI2 | rw [hI_ _ (by omega)] | rw [hN_ (by omega)])) (hgn g hl_j).2 (by repeat (first | exact ax_u_at _ _ _ _ | exact (hgc g hl_j).1 | rw [ax_u_ne (by omega)] | rw [ax_u_nj (by decide)] | rw [ax_sc_ne (by omega)] | rw [ax_rem_ne (by omega) (by omega)] | unfold ax_ldI | unfold ax_woI | unfold ax_rxI | unfold ax_frI0 | unfold ax_frI1 | unfold ax_frI2 | rw [hI_ _ (by omega)] | rw [hN_ (by omega)])) (hgc g hl_j).2 (by repeat (first | exact ax_u_at _ _ _ _ | exact (hgn h hm_j).1 | rw [ax_u_ne (by omega)] | rw [ax_u_nj (by decide)] | rw [ax_sc_ne (by omega)] | rw [ax_rem_ne (by omega) (by omega)] | unfold ax_ldI | unfold ax_woI | unfold ax_rxI | unfold ax_frI0 | unfold ax_frI1 | unfold ax_frI2 | rw [hI_ _ (by omega)] | rw [hN_ (by omega)])) (hgn h hm_j).2 (by repeat (first | exact ax_u_at _ _ _ _ | exact (hgc h hm_j).1 | rw [ax_u_ne (by omega)] | rw [ax_u_nj (by decide)] | rw [ax_sc_ne (by omega)] | rw [ax_rem_ne (by omega) (by omega)] | unfold ax_ldI | unfold ax_woI | unfold ax_rxI | unfold ax_frI0 | unfold ax_frI1 | unfold ax_frI2 | rw [hI_ _ (by omega)] | rw [hN_ (by omega)])) (hgc h hm_j).2 (by omega)) mlX10_227 rfl rfl (by have h_ := hC.work.1; omega) hC.work.fld.1 ⟨by show d - 1 + 1 ≤ d; omega, by show 40 * (d - 1 + 1) ≤ 40 * d; omega⟩ ⟨Nat.le_refl _, Nat.le_refl _⟩ rfl (Nat.le_of_ble_eq_true rfl) (dk ddX10_part 19 rfl) ?_
    rintro v_ G_ I_ L_ ⟨rfl, rfl, rfl, rfl⟩
    rw [show (ax_ldv I L (a + 483) (a + 1) j g h (gn g) (gc g) (gn h) (gc h)) = true from hw]
    refine x_if_ne_b C (tgt := 42) (dk ddX10_part 20 rfl) (by decide) (fun _ => ?_) (fun h_ => absurd h_ (by decide))
    refine x_aload_n C (dk ddX10_part 23 rfl) rfl ?_
    refine x_getr C flX10_59 rfl (by have h_ := hC.1; omega) hC.fld.1 (show ax_R G a 8 = some (a + 483) from hC.fld.2.2 (8, 483) (by decide)) (dk ddX10_part 24 rfl) ?_
    refine x_aload_n C (dk ddX10_part 25 rfl) rfl ?_
    refine x_getr C flX10_10 rfl (by have h_ := hC.1; omega) hC.fld.1 (show ax_R G a 0 = some (a + 1) from hC.fld.2.2 (0, 1) (by decide)) (dk ddX10_part 26 rfl) ?_
    refine x_iload_n C (dk ddX10_part 27 rfl) rfl ?_
    refine x_callV C (ci := 3) (As := [.ref (a + 1), .int (nI j)]) (k_X3_workOut l D T o (d - 1) G (ax_ldI I (a + 483) (gn g) (gn h)) (ax_ldL I L (a + 483) (a + 1) j g h (gn g) (gc g) (gn h) (gc h)) (a + 483) (a + 1) j (gn g) (gn h) hC.work hC.state (by omega) hf_j (by repeat (first | exact ax_u_at _ _ _ _ | rw [ax_u_ne (by omega)] | rw [ax_u_nj (by decide)] | rw [ax_sc_ne (by omega)] | rw [ax_rem_ne (by omega) (by omega)] | unfold ax_ldI | unfold ax_woI | unfold ax_rxI | unfold ax_frI0 | unfold ax_frI1 | unfold ax_frI2 | rw [hI_ _ (by omega)] | rw [hN_ (by omega)])) (hgn g hl_j).2 (by repeat (first | exact ax_u_at _ _ _ _ | rw [ax_u_ne (by omega)] | rw [ax_u_nj (by decide)] | rw [ax_sc_ne (by omega)] | rw [ax_rem_ne (by omega) (by omega)] | unfold ax_ldI | unfold ax_woI | unfold ax_rxI | unfold ax_frI0 | unfold ax_frI1 | unfold ax_frI2 | rw [hI_ _ (by omega)] | rw [hN_ (by omega)])) (hgn h hm_j).2 (by omega)) mlX10_231 rfl rfl (by have h_ := hC.work.1; omega) hC.work.fld.1 ⟨by show d - 1 + 1 ≤ d; omega, by show 40 * (d - 1 + 1) ≤ 40 * d; omega⟩ ⟨Nat.le_refl _, Nat.le_refl _⟩ rfl (Nat.le_of_ble_eq_true rfl) (dk ddX10_part 28 rfl) ?_
    rintro v_ G_ I_ L_ ⟨rfl, rfl, rfl, rfl⟩
    refine x_aload_n C (dk ddX10_part 29 rfl) rfl ?_
    refine x_getr C flX10_59 rfl (by have h_ := hC.1; omega) hC.fld.1 (show ax_R G a 8 = some (a + 483) from hC.fld.2.2 (8, 483) (by decide)) (dk ddX10_part 30 rfl) ?_
    refine x_iload_n C (dk ddX10_part 31 rfl) rfl ?_
    refine x_aload_n C (dk ddX10_part 32 rfl) rfl ?_
    refine x_getr C flX10_79 rfl (by have h_ := hC.1; omega) hC.fld.1 (show ax_R G a 12 = some (a + 615) from hC.fld.2.2 (12, 615) (by decide)) (dk ddX10_part 33 rfl) ?_
    refine x_callV C (ci := 3) (As := [.int (nI 1), .ref (a + 615)]) (k_X3_fillRings_1 l D T o (d - 1) G (ax_woI (ax_ldI I (a + 483) (gn g) (gn h)) (a + 483) (gn g) (gn h)) (ax_woL (ax_ldI I (a + 483) (gn g) (gn h)) (ax_ldL I L (a + 483) (a + 1) j g h (gn g) (gc g) (gn h) (gc h)) (a + 483) (a + 1) j (gn g) (gn h)) (a + 483) (a + 615) (a + 616) (gn g) (gn h) hC.work hC.rings (by omega) (by repeat (first | exact ax_u_at _ _ _ _ | rw [ax_u_ne (by omega)] | rw [ax_u_nj (by decide)] | rw [ax_sc_ne (by omega)] | rw [ax_rem_ne (by omega) (by omega)] | unfold ax_ldI | unfold ax_woI | unfold ax_rxI | unfold ax_frI0 | unfold ax_frI1 | unfold ax_frI2 | rw [hI_ _ (by omega)] | rw [hN_ (by omega)])) (by omega) (by refine Eq.trans (b := nI ((gn h) + (gn g) - (gn h))) ?_ (congrArg nI (Nat.add_sub_cancel_left ..)); exact (by repeat (first | exact ax_u_at _ _ _ _ | rw [ax_u_ne (by omega)] | rw [ax_u_nj (by decide)] | rw [ax_sc_ne (by omega)] | rw [ax_rem_ne (by omega) (by omega)] | unfold ax_ldI | unfold ax_woI | unfold ax_rxI | unfold ax_frI0 | unfold ax_frI1 | unfold ax_frI2 | rw [hI_ _ (by omega)] | rw [hN_ (by omega)]))) (by repeat (first | exact ax_u_at _ _ _ _ | rw [ax_u_ne (by omega)] | rw [ax_u_nj (by decide)] | rw [ax_sc_ne (by omega)] | rw [ax_rem_ne (by omega) (by omega)] | unfold ax_ldI | unfold ax_woI | unfold ax_rxI | unfold ax_frI0 | unfold ax_frI1 | unfold ax_frI2 | rw [hI_ _ (by omega)] | rw [hN_ (by omega)])) (by omega) (by omega)) mlX10_249 rfl rfl (by have h_ := hC.work.1; omega) hC.work.fld.1 ⟨by show d - 1 + 1 ≤ d; omega, by show 40 * (d - 1 + 1) ≤ 40 * d; omega⟩ ⟨Nat.le_refl _, Nat.le_refl _⟩ rfl (Nat.le_of_ble_eq_true rfl) (dk ddX10_part 34 rfl) ?_
    rintro v_ G_ I_ L_ ⟨rfl, rfl, rfl, rfl⟩
    refine x_aload_n C (dk ddX10_part 35 rfl) rfl ?_
    refine x_getr C flX10_79 rfl (by have h_ := hC.1; omega) hC.fld.1 (show ax_R G a 12 = some (a + 615) from hC.fld.2.2 (12, 615) (by decide)) (dk ddX10_part 36 rfl) ?_
    refine x_iload_n C (dk ddX10_part 37 rfl) rfl ?_
    refine x_callS C (As := [.ref (a + 615), .int (nI k)]) (k_X10_ownRing l D T o (d - 1) G (ax_frI1 (ax_woI (ax_ldI I (a + 483) (gn g) (gn h)) (a + 483) (gn g) (gn h)) (a + 615) (gn g)) (ax_frL1 (ax_woL (ax_ldI I (a + 483) (gn g) (gn h)) (ax_ldL I L (a + 483) (a + 1) j g h (gn g) (gc g) (gn h) (gc h)) (a + 483) (a + 1) j (gn g) (gn h)) (a + 483) (a + 616) (gn g)) (a + 615) (a + 616) (gn g) k hC.rings (by repeat (first | exact ax_u_at _ _ _ _ | rw [ax_u_ne (by omega)] | rw [ax_u_nj (by decide)] | rw [ax_sc_ne (by omega)] | rw [ax_rem_ne (by omega) (by omega)] | unfold ax_ldI | unfold ax_woI | unfold ax_rxI | unfold ax_frI0 | unfold ax_frI1 | unfold ax_frI2 | rw [hI_ _ (by omega)] | rw [hN_ (by omega)])) (by omega) (by omega) (by omega)) mlX10_179 ⟨by show d - 1 + 1 ≤ d; omega, by show 40 * (d - 1 + 1) ≤ 40 * d; omega⟩ ⟨Nat.le_refl _, Nat.le_refl _⟩ rfl (Nat.le_of_ble_eq_true rfl) (dk ddX10_part 38 rfl) ?_
    rintro v_ G_ I_ L_ ⟨rfl, rfl, rfl, rfl⟩
    exact x_iret C rfl ⟨rfl, rfl, rfl, rfl⟩ rfl rfl (dk ddX10_part 39 rfl)
  · have h19c := Int32.not_le.mp h19
    exfalso
    exact absurd (Int32.not_le.mp h19) (ax_nn1 (by omega))
def ax_paI2 (I : ax_I) (a : Nat) (g : Nat) (h : Nat) (gn : Nat → Nat) : ax_I := ax_frI2 (ax_woI (ax_ldI I (a + 483) (gn g) (gn h)) (a + 483) (gn g) (gn h)) (a + 615) (gn h)
def ax_paL2 (I : ax_I) (L : ax_L) (a : Nat) (j : Nat) (g : Nat) (h : Nat) (gn : Nat → Nat) (gc : Nat → Nat) : ax_L := ax_frL2 (ax_woL (ax_ldI I (a + 483) (gn g) (gn h)) (ax_ldL I L (a + 483) (a + 1) j g h (gn g) (gc g) (gn h) (gc h)) (a + 483) (a + 1) j (gn g) (gn h)) (a + 483) (a + 616) (gn h)
def ax_pav2 (I : ax_I) (L : ax_L) (a : Nat) (j : Nat) (g : Nat) (h : Nat) (k : Nat) (gn : Nat → Nat) (gc : Nat → Nat) : Int32 := if ax_cn ((ax_frL2 (ax_woL (ax_ldI I (a + 483) (gn g) (gn h)) (ax_ldL I L (a + 483) (a + 1) j g h (gn g) (gc g) (gn h) (gc h)) (a + 483) (a + 1) j (gn g) (gn h)) (a + 483) (a + 616) (gn h)) (a + 616)) (gn h) ≤ k then (-3) else (ax_owc ((ax_frL2 (ax_woL (ax_ldI I (a + 483) (gn g) (gn h)) (ax_ldL I L (a + 483) (a + 1) j g h (gn g) (gc g) (gn h) (gc h)) (a + 483) (a + 1) j (gn g) (gn h)) (a + 483) (a + 616) (gn h)) (a + 616)) (gn h) k).toInt32
set_option maxRecDepth 20000 in
/-- part(j, 2, ..) -/
theorem k_X10_part_2 (l : Launch) (D : va_G) (T : Nat → ClassId) (o d : Nat) (G : ax_G) (I : ax_I) (L : ax_L) (a j g h k : Nat) (gn gc : Nat → Nat) (hC : ax_Cls G a) (hgn : ∀ g, g < 6 → I (a + 1 + 1) g = nI (gn g) ∧ gn g ≤ 3) (hgc : ∀ g, g < 6 → I (a + 1 + 2) g = nI (gc g) ∧ gc g ≤ 4) (hf_j : j < 8) (hg_j : I (a + 1 + 4) j = nI g) (hl_j : g < 6) (hh_j : I (a + 1 + 5) j = nI h) (hm_j : h < 6) (hk : k < 2 ^ 31) (hw : ax_ldv I L (a + 483) (a + 1) j g h (gn g) (gc g) (gn h) (gc h) = true) (hd : 8 ≤ d) : ax_Con l D T o yX10_part cX10_part 4 (some .int) d 0 0 [.ref a, .int (nI j), .int (nI 2), .int (nI k)] G I L (fun zz G' I' L' => zz = some (.int (ax_pav2 I L a j g h k gn gc)) ∧ G = G' ∧ (ax_paI2 I a g h gn) = I' ∧ (ax_paL2 I L a j g h gn gc) = L') := by
  refine ax_enter (by decide +kernel) (Nat.le_of_ble_eq_true rfl) ?_
  intro p_ e_ s_ m_ args_ below_ meth_ c_ C _
  refine x_lvs (lv' := [(0, .ref a), (1, .int (nI j)), (2, .int (nI 2)), (3, .int (nI k))]) rfl ?_
  have hb_ := (hgn g hl_j).2
  have hb2_ := (hgn h hm_j).2
  refine x_aload_n C (dk ddX10_part 0 rfl) rfl ?_
  refine x_iload_n C (dk ddX10_part 1 rfl) rfl ?_
  refine x_callV C (ci := 10) (As := [.int (nI j)]) (k_X10_isMap l D T o (d - 1) G I L a j hC (by omega) (by omega)) mlX10_218 rfl rfl (by have h_ := hC.1; omega) hC.fld.1 ⟨by show d - 1 + 1 ≤ d; omega, by show 40 * (d - 1 + 1) ≤ 40 * d; omega⟩ ⟨Nat.le_refl _, Nat.le_refl _⟩ rfl (Nat.le_of_ble_eq_true rfl) (dk ddX10_part 2 rfl) ?_
  rintro v_ G_ I_ L_ ⟨rfl, rfl, rfl, rfl⟩
  rw [show (!decide (I (a + 1 + 4) j = -1)) = true from by rw [show I (a + 1 + 4) j = nI g from (by repeat (first | exact ax_u_at _ _ _ _ | exact hg_j | rw [ax_u_ne (by omega)] | rw [ax_u_nj (by decide)] | rw [ax_sc_ne (by omega)] | rw [ax_rem_ne (by omega) (by omega)] | unfold ax_ldI | unfold ax_woI | unfold ax_rxI | unfold ax_frI0 | unfold ax_frI1 | unfold ax_frI2 | rw [hI_ _ (by omega)] | rw [hN_ (by omega)]))]; exact ax_hm hl_j]
  refine x_if_eq_b C (tgt := 22) (dk ddX10_part 3 rfl) (by decide) (fun h_ => absurd h_ (by decide)) (fun _ => ?_)
  refine x_iload_n C (dk ddX10_part 4 rfl) rfl ?_
  refine x_if_lt_n C (tgt := 22) (dk ddX10_part 5 rfl) (by decide) (by decide) (fun h_ => absurd h_ (by decide)) (fun _ => ?_)
  refine x_iload_n C (dk ddX10_part 6 rfl) rfl ?_
  refine x_iconst C (v := nI 2) (dk ddX10_part 7 rfl) (by decide) ?_
  refine x_icmp_gt_n C (tgt := 22) (dk ddX10_part 8 rfl) (by decide) (by decide) (by decide) (fun h_ => absurd h_ (by decide)) (fun _ => ?_)
  refine x_iload_n C (dk ddX10_part 9 rfl) rfl ?_
  refine x_iconst C (v := (-1)) (dk ddX10_part 10 rfl) (by decide) ?_
  refine x_icmp_ge C (tgt := 24) (dk ddX10_part 11 rfl) (by decide) (fun h19 => ?_) (fun h19 => ?_)
  · have h19c := Int32.not_lt.mpr h19
    refine x_aload_n C (dk ddX10_part 14 rfl) rfl ?_
    refine x_getr C flX10_59 rfl (by have h_ := hC.1; omega) hC.fld.1 (show ax_R G a 8 = some (a + 483) from hC.fld.2.2 (8, 483) (by decide)) (dk ddX10_part 15 rfl) ?_
    refine x_aload_n C (dk ddX10_part 16 rfl) rfl ?_
    refine x_getr C flX10_10 rfl (by have h_ := hC.1; omega) hC.fld.1 (show ax_R G a 0 = some (a + 1) from hC.fld.2.2 (0, 1) (by decide)) (dk ddX10_part 17 rfl) ?_
    refine x_iload_n C (dk ddX10_part 18 rfl) rfl ?_
    refine x_callV C (ci := 3) (As := [.ref (a + 1), .int (nI j)]) (k_X3_load l D T o (d - 1) G I L (a + 483) (a + 1) j g h (gn g) (gc g) (gn h) (gc h) hC.work hC.state (by omega) hf_j (by repeat (first | exact ax_u_at _ _ _ _ | exact hg_j | rw [ax_u_ne (by omega)] | rw [ax_u_nj (by decide)] | rw [ax_sc_ne (by omega)] | rw [ax_rem_ne (by omega) (by omega)] | unfold ax_ldI | unfold ax_woI | unfold ax_rxI | unfold ax_frI0 | unfold ax_frI1 | unfold ax_frI2 | rw [hI_ _ (by omega)] | rw [hN_ (by omega)])) hl_j (by repeat (first | exact ax_u_at _ _ _ _ | exact hh_j | rw [ax_u_ne (by omega)] | rw [ax_u_nj (by decide)] | rw [ax_sc_ne (by omega)] | rw [ax_rem_ne (by omega) (by omega)] | unfold ax_ldI | unfold ax_woI | unfold ax_rxI | unfold ax_frI0 | unfold ax_frI1 | unfold ax_frI2 | rw [hI_ _ (by omega)] | rw [hN_ (by omega)])) hm_j (by repeat (first | exact ax_u_at _ _ _ _ | exact (hgn g hl_j).1 | rw [ax_u_ne (by omega)] | rw [ax_u_nj (by decide)] | rw [ax_sc_ne (by omega)] | rw [ax_rem_ne (by omega) (by omega)] | unfold ax_ldI | unfold ax_woI | unfold ax_rxI | unfold ax_frI0 | unfold ax_frI1 | unfold ax_frI2 | rw [hI_ _ (by omega)] | rw [hN_ (by omega)])) (hgn g hl_j).2 (by repeat (first | exact ax_u_at _ _ _ _ | exact (hgc g hl_j).1 | rw [ax_u_ne (by omega)] | rw [ax_u_nj (by decide)] | rw [ax_sc_ne (by omega)] | rw [ax_rem_ne (by omega) (by omega)] | unfold ax_ldI | unfold ax_woI | unfold ax_rxI | unfold ax_frI0 | unfold ax_frI1 | unfold ax_frI2 | rw [hI_ _ (by omega)] | rw [hN_ (by omega)])) (hgc g hl_j).2 (by repeat (first | exact ax_u_at _ _ _ _ | exact (hgn h hm_j).1 | rw [ax_u_ne (by omega)] | rw [ax_u_nj (by decide)] | rw [ax_sc_ne (by omega)] | rw [ax_rem_ne (by omega) (by omega)] | unfold ax_ldI | unfold ax_woI | unfold ax_rxI | unfold ax_frI0 | unfold ax_frI1 | unfold ax_frI2 | rw [hI_ _ (by omega)] | rw [hN_ (by omega)])) (hgn h hm_j).2 (by repeat (first | exact ax_u_at _ _ _ _ | exact (hgc h hm_j).1 | rw [ax_u_ne (by omega)] | rw [ax_u_nj (by decide)] | rw [ax_sc_ne (by omega)] | rw [ax_rem_ne (by omega) (by omega)] | unfold ax_ldI | unfold ax_woI | unfold ax_rxI | unfold ax_frI0 | unfold ax_frI1 | unfold ax_frI2 | rw [hI_ _ (by omega)] | rw [hN_ (by omega)])) (hgc h hm_j).2 (by omega)) mlX10_227 rfl rfl (by have h_ := hC.work.1; omega) hC.work.fld.1 ⟨by show d - 1 + 1 ≤ d; omega, by show 40 * (d - 1 + 1) ≤ 40 * d; omega⟩ ⟨Nat.le_refl _, Nat.le_refl _⟩ rfl (Nat.le_of_ble_eq_true rfl) (dk ddX10_part 19 rfl) ?_
    rintro v_ G_ I_ L_ ⟨rfl, rfl, rfl, rfl⟩
    rw [show (ax_ldv I L (a + 483) (a + 1) j g h (gn g) (gc g) (gn h) (gc h)) = true from hw]
    refine x_if_ne_b C (tgt := 42) (dk ddX10_part 20 rfl) (by decide) (fun _ => ?_) (fun h_ => absurd h_ (by decide))
    refine x_aload_n C (dk ddX10_part 23 rfl) rfl ?_
    refine x_getr C flX10_59 rfl (by have h_ := hC.1; omega) hC.fld.1 (show ax_R G a 8 = some (a + 483) from hC.fld.2.2 (8, 483) (by decide)) (dk ddX10_part 24 rfl) ?_
    refine x_aload_n C (dk ddX10_part 25 rfl) rfl ?_
    refine x_getr C flX10_10 rfl (by have h_ := hC.1; omega) hC.fld.1 (show ax_R G a 0 = some (a + 1) from hC.fld.2.2 (0, 1) (by decide)) (dk ddX10_part 26 rfl) ?_
    refine x_iload_n C (dk ddX10_part 27 rfl) rfl ?_
    refine x_callV C (ci := 3) (As := [.ref (a + 1), .int (nI j)]) (k_X3_workOut l D T o (d - 1) G (ax_ldI I (a + 483) (gn g) (gn h)) (ax_ldL I L (a + 483) (a + 1) j g h (gn g) (gc g) (gn h) (gc h)) (a + 483) (a + 1) j (gn g) (gn h) hC.work hC.state (by omega) hf_j (by repeat (first | exact ax_u_at _ _ _ _ | rw [ax_u_ne (by omega)] | rw [ax_u_nj (by decide)] | rw [ax_sc_ne (by omega)] | rw [ax_rem_ne (by omega) (by omega)] | unfold ax_ldI | unfold ax_woI | unfold ax_rxI | unfold ax_frI0 | unfold ax_frI1 | unfold ax_frI2 | rw [hI_ _ (by omega)] | rw [hN_ (by omega)])) (hgn g hl_j).2 (by repeat (first | exact ax_u_at _ _ _ _ | rw [ax_u_ne (by omega)] | rw [ax_u_nj (by decide)] | rw [ax_sc_ne (by omega)] | rw [ax_rem_ne (by omega) (by omega)] | unfold ax_ldI | unfold ax_woI | unfold ax_rxI | unfold ax_frI0 | unfold ax_frI1 | unfold ax_frI2 | rw [hI_ _ (by omega)] | rw [hN_ (by omega)])) (hgn h hm_j).2 (by omega)) mlX10_231 rfl rfl (by have h_ := hC.work.1; omega) hC.work.fld.1 ⟨by show d - 1 + 1 ≤ d; omega, by show 40 * (d - 1 + 1) ≤ 40 * d; omega⟩ ⟨Nat.le_refl _, Nat.le_refl _⟩ rfl (Nat.le_of_ble_eq_true rfl) (dk ddX10_part 28 rfl) ?_
    rintro v_ G_ I_ L_ ⟨rfl, rfl, rfl, rfl⟩
    refine x_aload_n C (dk ddX10_part 29 rfl) rfl ?_
    refine x_getr C flX10_59 rfl (by have h_ := hC.1; omega) hC.fld.1 (show ax_R G a 8 = some (a + 483) from hC.fld.2.2 (8, 483) (by decide)) (dk ddX10_part 30 rfl) ?_
    refine x_iload_n C (dk ddX10_part 31 rfl) rfl ?_
    refine x_aload_n C (dk ddX10_part 32 rfl) rfl ?_
    refine x_getr C flX10_79 rfl (by have h_ := hC.1; omega) hC.fld.1 (show ax_R G a 12 = some (a + 615) from hC.fld.2.2 (12, 615) (by decide)) (dk ddX10_part 33 rfl) ?_
    refine x_callV C (ci := 3) (As := [.int (nI 2), .ref (a + 615)]) (k_X3_fillRings_2 l D T o (d - 1) G (ax_woI (ax_ldI I (a + 483) (gn g) (gn h)) (a + 483) (gn g) (gn h)) (ax_woL (ax_ldI I (a + 483) (gn g) (gn h)) (ax_ldL I L (a + 483) (a + 1) j g h (gn g) (gc g) (gn h) (gc h)) (a + 483) (a + 1) j (gn g) (gn h)) (a + 483) (a + 615) (a + 616) (gn g) (gn h) hC.work hC.rings (by omega) (by repeat (first | exact ax_u_at _ _ _ _ | rw [ax_u_ne (by omega)] | rw [ax_u_nj (by decide)] | rw [ax_sc_ne (by omega)] | rw [ax_rem_ne (by omega) (by omega)] | unfold ax_ldI | unfold ax_woI | unfold ax_rxI | unfold ax_frI0 | unfold ax_frI1 | unfold ax_frI2 | rw [hI_ _ (by omega)] | rw [hN_ (by omega)])) (by omega) (by refine Eq.trans (b := nI ((gn h) + (gn g) - (gn h))) ?_ (congrArg nI (Nat.add_sub_cancel_left ..)); exact (by repeat (first | exact ax_u_at _ _ _ _ | rw [ax_u_ne (by omega)] | rw [ax_u_nj (by decide)] | rw [ax_sc_ne (by omega)] | rw [ax_rem_ne (by omega) (by omega)] | unfold ax_ldI | unfold ax_woI | unfold ax_rxI | unfold ax_frI0 | unfold ax_frI1 | unfold ax_frI2 | rw [hI_ _ (by omega)] | rw [hN_ (by omega)]))) (by repeat (first | exact ax_u_at _ _ _ _ | rw [ax_u_ne (by omega)] | rw [ax_u_nj (by decide)] | rw [ax_sc_ne (by omega)] | rw [ax_rem_ne (by omega) (by omega)] | unfold ax_ldI | unfold ax_woI | unfold ax_rxI | unfold ax_frI0 | unfold ax_frI1 | unfold ax_frI2 | rw [hI_ _ (by omega)] | rw [hN_ (by omega)])) (by omega) (by omega)) mlX10_249 rfl rfl (by have h_ := hC.work.1; omega) hC.work.fld.1 ⟨by show d - 1 + 1 ≤ d; omega, by show 40 * (d - 1 + 1) ≤ 40 * d; omega⟩ ⟨Nat.le_refl _, Nat.le_refl _⟩ rfl (Nat.le_of_ble_eq_true rfl) (dk ddX10_part 34 rfl) ?_
    rintro v_ G_ I_ L_ ⟨rfl, rfl, rfl, rfl⟩
    refine x_aload_n C (dk ddX10_part 35 rfl) rfl ?_
    refine x_getr C flX10_79 rfl (by have h_ := hC.1; omega) hC.fld.1 (show ax_R G a 12 = some (a + 615) from hC.fld.2.2 (12, 615) (by decide)) (dk ddX10_part 36 rfl) ?_
    refine x_iload_n C (dk ddX10_part 37 rfl) rfl ?_
    refine x_callS C (As := [.ref (a + 615), .int (nI k)]) (k_X10_ownRing l D T o (d - 1) G (ax_frI2 (ax_woI (ax_ldI I (a + 483) (gn g) (gn h)) (a + 483) (gn g) (gn h)) (a + 615) (gn h)) (ax_frL2 (ax_woL (ax_ldI I (a + 483) (gn g) (gn h)) (ax_ldL I L (a + 483) (a + 1) j g h (gn g) (gc g) (gn h) (gc h)) (a + 483) (a + 1) j (gn g) (gn h)) (a + 483) (a + 616) (gn h)) (a + 615) (a + 616) (gn h) k hC.rings (by repeat (first | exact ax_u_at _ _ _ _ | rw [ax_u_ne (by omega)] | rw [ax_u_nj (by decide)] | rw [ax_sc_ne (by omega)] | rw [ax_rem_ne (by omega) (by omega)] | unfold ax_ldI | unfold ax_woI | unfold ax_rxI | unfold ax_frI0 | unfold ax_frI1 | unfold ax_frI2 | rw [hI_ _ (by omega)] | rw [hN_ (by omega)])) (by omega) (by omega) (by omega)) mlX10_179 ⟨by show d - 1 + 1 ≤ d; omega, by show 40 * (d - 1 + 1) ≤ 40 * d; omega⟩ ⟨Nat.le_refl _, Nat.le_refl _⟩ rfl (Nat.le_of_ble_eq_true rfl) (dk ddX10_part 38 rfl) ?_
    rintro v_ G_ I_ L_ ⟨rfl, rfl, rfl, rfl⟩
    exact x_iret C rfl ⟨rfl, rfl, rfl, rfl⟩ rfl rfl (dk ddX10_part 39 rfl)
  · have h19c := Int32.not_le.mp h19
    exfalso
    exact absurd (Int32.not_le.mp h19) (ax_nn1 (by omega))
set_option maxRecDepth 20000 in
/-- exact, refused -/
theorem k_X10_exact_bad (l : Launch) (D : va_G) (T : Nat → ClassId) (o d : Nat) (G : ax_G) (I : ax_I) (L : ax_L) (a : Nat) (f e : Int32) (hC : ax_Cls G a) (hbad : (ax_in3 f.toInt64 0 7 && !decide (I (a + 1 + 4) f.toNatClampNeg = -1)) = false ∨ (ax_in3 e.toInt64 0 7 && !decide (I (a + 1 + 4) e.toNatClampNeg = -1)) = false) (hd : 3 ≤ d) : ax_Con l D T o yX10_exact cX10_exact 3 (some .int) d 0 0 [.ref a, .int f, .int e] G I L (fun zz G' I' L' => zz = some (.int ((-1))) ∧ G = G' ∧ I = I' ∧ L = L') := by
  refine ax_enter (by decide +kernel) (Nat.le_of_ble_eq_true rfl) ?_
  intro p_ e_ s_ m_ args_ below_ meth_ c_ C _
  refine x_lvs (lv' := [(0, .ref a), (1, .int f), (2, .int e)]) rfl ?_
  refine x_aload_n C (dk ddX10_exact 0 rfl) rfl ?_
  refine x_iload_n C (dk ddX10_exact 1 rfl) rfl ?_
  refine x_callV C (ci := 10) (As := [.int f]) (k_X10_isMapI l D T o (d - 1) G I L a f hC (by omega)) mlX10_218 rfl rfl (by have h_ := hC.1; omega) hC.fld.1 ⟨by show d - 1 + 1 ≤ d; omega, by show 40 * (d - 1 + 1) ≤ 40 * d; omega⟩ ⟨Nat.le_refl _, Nat.le_refl _⟩ rfl (Nat.le_of_ble_eq_true rfl) (dk ddX10_exact 2 rfl) ?_
  rintro v_ G_ I_ L_ ⟨rfl, rfl, rfl, rfl⟩
  refine x_if_eq_b C (tgt := 16) (dk ddX10_exact 3 rfl) (by decide) (fun h5 => ?_) (fun h5 => ?_)
  · refine x_iconst C (v := (-1)) (dk ddX10_exact 8 rfl) (by decide) ?_
    exact x_iret C rfl ⟨rfl, rfl, rfl, rfl⟩ rfl rfl (dk ddX10_exact 9 rfl)
  · refine x_aload_n C (dk ddX10_exact 4 rfl) rfl ?_
    refine x_iload_n C (dk ddX10_exact 5 rfl) rfl ?_
    refine x_callV C (ci := 10) (As := [.int e]) (k_X10_isMapI l D T o (d - 1) G I L a e hC (by omega)) mlX10_218 rfl rfl (by have h_ := hC.1; omega) hC.fld.1 ⟨by show d - 1 + 1 ≤ d; omega, by show 40 * (d - 1 + 1) ≤ 40 * d; omega⟩ ⟨Nat.le_refl _, Nat.le_refl _⟩ rfl (Nat.le_of_ble_eq_true rfl) (dk ddX10_exact 6 rfl) ?_
    rintro v_ G_ I_ L_ ⟨rfl, rfl, rfl, rfl⟩
    refine x_if_ne_b C (tgt := 18) (dk ddX10_exact 7 rfl) (by decide) (fun h13 => ?_) (fun h13 => ?_)
    · exfalso
      rcases hbad with hq_ | hq_ <;> first | exact absurd hq_ (by assumption) | (simp_all; done)
    · refine x_iconst C (v := (-1)) (dk ddX10_exact 8 rfl) (by decide) ?_
      exact x_iret C rfl ⟨rfl, rfl, rfl, rfl⟩ rfl rfl (dk ddX10_exact 9 rfl)
def ax_exI (I : ax_I) (L : ax_L) (a : Nat) (j : Nat) (g : Nat) (h : Nat) (i : Nat) (p : Nat) (q : Nat) (gn : Nat → Nat) (gc : Nat → Nat) : ax_I := if (ax_ldv I L (a + 483) (a + 1) j g h (gn g) (gc g) (gn h) (gc h)) = true then (if (ax_ldv (ax_ldI I (a + 483) (gn g) (gn h)) (ax_ldL I L (a + 483) (a + 1) j g h (gn g) (gc g) (gn h) (gc h)) (a + 540) (a + 1) i p q (gn p) (gc p) (gn q) (gc q)) = true then (if h = p then ax_woI (ax_woI (ax_ldI (ax_ldI I (a + 483) (gn g) (gn h)) (a + 540) (gn p) (gn q)) (a + 483) (gn g) (gn h)) (a + 540) (gn p) (gn q) else ax_ldI (ax_ldI I (a + 483) (gn g) (gn h)) (a + 540) (gn p) (gn q)) else ax_ldI (ax_ldI I (a + 483) (gn g) (gn h)) (a + 540) (gn p) (gn q)) else ax_ldI I (a + 483) (gn g) (gn h)
def ax_exL (I : ax_I) (L : ax_L) (a : Nat) (j : Nat) (g : Nat) (h : Nat) (i : Nat) (p : Nat) (q : Nat) (gn : Nat → Nat) (gc : Nat → Nat) : ax_L := if (ax_ldv I L (a + 483) (a + 1) j g h (gn g) (gc g) (gn h) (gc h)) = true then (if (ax_ldv (ax_ldI I (a + 483) (gn g) (gn h)) (ax_ldL I L (a + 483) (a + 1) j g h (gn g) (gc g) (gn h) (gc h)) (a + 540) (a + 1) i p q (gn p) (gc p) (gn q) (gc q)) = true then (if h = p then ax_woL (ax_woI (ax_ldI (ax_ldI I (a + 483) (gn g) (gn h)) (a + 540) (gn p) (gn q)) (a + 483) (gn g) (gn h)) (ax_woL (ax_ldI (ax_ldI I (a + 483) (gn g) (gn h)) (a + 540) (gn p) (gn q)) (ax_ldL (ax_ldI I (a + 483) (gn g) (gn h)) (ax_ldL I L (a + 483) (a + 1) j g h (gn g) (gc g) (gn h) (gc h)) (a + 540) (a + 1) i p q (gn p) (gc p) (gn q) (gc q)) (a + 483) (a + 1) j (gn g) (gn h)) (a + 540) (a + 1) i (gn p) (gn q) else ax_ldL (ax_ldI I (a + 483) (gn g) (gn h)) (ax_ldL I L (a + 483) (a + 1) j g h (gn g) (gc g) (gn h) (gc h)) (a + 540) (a + 1) i p q (gn p) (gc p) (gn q) (gc q)) else ax_ldL (ax_ldI I (a + 483) (gn g) (gn h)) (ax_ldL I L (a + 483) (a + 1) j g h (gn g) (gc g) (gn h) (gc h)) (a + 540) (a + 1) i p q (gn p) (gc p) (gn q) (gc q)) else ax_ldL I L (a + 483) (a + 1) j g h (gn g) (gc g) (gn h) (gc h)
def ax_exv (I : ax_I) (L : ax_L) (a : Nat) (j : Nat) (g : Nat) (h : Nat) (i : Nat) (p : Nat) (q : Nat) (gn : Nat → Nat) (gc : Nat → Nat) : Int32 := if (ax_ldv I L (a + 483) (a + 1) j g h (gn g) (gc g) (gn h) (gc h)) = true then (if (ax_ldv (ax_ldI I (a + 483) (gn g) (gn h)) (ax_ldL I L (a + 483) (a + 1) j g h (gn g) (gc g) (gn h) (gc h)) (a + 540) (a + 1) i p q (gn p) (gc p) (gn q) (gc q)) = true then (if h = p then (if (ax_ias (ax_woL (ax_woI (ax_ldI (ax_ldI I (a + 483) (gn g) (gn h)) (a + 540) (gn p) (gn q)) (a + 483) (gn g) (gn h)) (ax_woL (ax_ldI (ax_ldI I (a + 483) (gn g) (gn h)) (a + 540) (gn p) (gn q)) (ax_ldL (ax_ldI I (a + 483) (gn g) (gn h)) (ax_ldL I L (a + 483) (a + 1) j g h (gn g) (gc g) (gn h) (gc h)) (a + 540) (a + 1) i p q (gn p) (gc p) (gn q) (gc q)) (a + 483) (a + 1) j (gn g) (gn h)) (a + 540) (a + 1) i (gn p) (gn q)) (a + 483 + 19) (gn h) (a + 540 + 28) (gn p)) = true then nI 1 else nI 0) else (-4)) else (-4)) else (-4)
set_option maxRecDepth 20000 in
/-- exact(j, i) -/
theorem k_X10_exact (l : Launch) (D : va_G) (T : Nat → ClassId) (o d : Nat) (G : ax_G) (I : ax_I) (L : ax_L) (a j g h i p q : Nat) (gn gc : Nat → Nat) (hC : ax_Cls G a) (hgn : ∀ g, g < 6 → I (a + 1 + 1) g = nI (gn g) ∧ gn g ≤ 3) (hgc : ∀ g, g < 6 → I (a + 1 + 2) g = nI (gc g) ∧ gc g ≤ 4) (hf_j : j < 8) (hg_j : I (a + 1 + 4) j = nI g) (hl_j : g < 6) (hh_j : I (a + 1 + 5) j = nI h) (hm_j : h < 6) (hf_i : i < 8) (hg_i : I (a + 1 + 4) i = nI p) (hl_i : p < 6) (hh_i : I (a + 1 + 5) i = nI q) (hm_i : q < 6) (hd : 8 ≤ d) : ax_Con l D T o yX10_exact cX10_exact 3 (some .int) d 0 0 [.ref a, .int (nI j), .int (nI i)] G I L (fun zz G' I' L' => zz = some (.int (ax_exv I L a j g h i p q gn gc)) ∧ G = G' ∧ (ax_exI I L a j g h i p q gn gc) = I' ∧ (ax_exL I L a j g h i p q gn gc) = L') := by
  refine ax_enter (by decide +kernel) (Nat.le_of_ble_eq_true rfl) ?_
  intro p_ e_ s_ m_ args_ below_ meth_ c_ C _
  refine x_lvs (lv' := [(0, .ref a), (1, .int (nI j)), (2, .int (nI i))]) rfl ?_
  have hb_ := (hgn g hl_j).2
  have hb2_ := (hgn h hm_j).2
  have hb3_ := (hgn p hl_i).2
  have hb4_ := (hgn q hm_i).2
  refine x_aload_n C (dk ddX10_exact 0 rfl) rfl ?_
  refine x_iload_n C (dk ddX10_exact 1 rfl) rfl ?_
  refine x_callV C (ci := 10) (As := [.int (nI j)]) (k_X10_isMap l D T o (d - 1) G I L a j hC (by omega) (by omega)) mlX10_218 rfl rfl (by have h_ := hC.1; omega) hC.fld.1 ⟨by show d - 1 + 1 ≤ d; omega, by show 40 * (d - 1 + 1) ≤ 40 * d; omega⟩ ⟨Nat.le_refl _, Nat.le_refl _⟩ rfl (Nat.le_of_ble_eq_true rfl) (dk ddX10_exact 2 rfl) ?_
  rintro v_ G_ I_ L_ ⟨rfl, rfl, rfl, rfl⟩
  rw [show (!decide (I (a + 1 + 4) j = -1)) = true from by rw [show I (a + 1 + 4) j = nI g from (by repeat (first | exact ax_u_at _ _ _ _ | exact hg_j | rw [ax_u_ne (by omega)] | rw [ax_u_nj (by decide)] | rw [ax_sc_ne (by omega)] | rw [ax_rem_ne (by omega) (by omega)] | unfold ax_ldI | unfold ax_woI | unfold ax_rxI | unfold ax_frI0 | unfold ax_frI1 | unfold ax_frI2 | rw [hI_ _ (by omega)] | rw [hN_ (by omega)]))]; exact ax_hm hl_j]
  refine x_if_eq_b C (tgt := 16) (dk ddX10_exact 3 rfl) (by decide) (fun h_ => absurd h_ (by decide)) (fun _ => ?_)
  refine x_aload_n C (dk ddX10_exact 4 rfl) rfl ?_
  refine x_iload_n C (dk ddX10_exact 5 rfl) rfl ?_
  refine x_callV C (ci := 10) (As := [.int (nI i)]) (k_X10_isMap l D T o (d - 1) G I L a i hC (by omega) (by omega)) mlX10_218 rfl rfl (by have h_ := hC.1; omega) hC.fld.1 ⟨by show d - 1 + 1 ≤ d; omega, by show 40 * (d - 1 + 1) ≤ 40 * d; omega⟩ ⟨Nat.le_refl _, Nat.le_refl _⟩ rfl (Nat.le_of_ble_eq_true rfl) (dk ddX10_exact 6 rfl) ?_
  rintro v_ G_ I_ L_ ⟨rfl, rfl, rfl, rfl⟩
  rw [show (!decide (I (a + 1 + 4) i = -1)) = true from by rw [show I (a + 1 + 4) i = nI p from (by repeat (first | exact ax_u_at _ _ _ _ | exact hg_i | rw [ax_u_ne (by omega)] | rw [ax_u_nj (by decide)] | rw [ax_sc_ne (by omega)] | rw [ax_rem_ne (by omega) (by omega)] | unfold ax_ldI | unfold ax_woI | unfold ax_rxI | unfold ax_frI0 | unfold ax_frI1 | unfold ax_frI2 | rw [hI_ _ (by omega)] | rw [hN_ (by omega)]))]; exact ax_hm hl_i]
  refine x_if_ne_b C (tgt := 18) (dk ddX10_exact 7 rfl) (by decide) (fun _ => ?_) (fun h_ => absurd h_ (by decide))
  refine x_aload_n C (dk ddX10_exact 10 rfl) rfl ?_
  refine x_getr C flX10_59 rfl (by have h_ := hC.1; omega) hC.fld.1 (show ax_R G a 8 = some (a + 483) from hC.fld.2.2 (8, 483) (by decide)) (dk ddX10_exact 11 rfl) ?_
  refine x_aload_n C (dk ddX10_exact 12 rfl) rfl ?_
  refine x_getr C flX10_10 rfl (by have h_ := hC.1; omega) hC.fld.1 (show ax_R G a 0 = some (a + 1) from hC.fld.2.2 (0, 1) (by decide)) (dk ddX10_exact 13 rfl) ?_
  refine x_iload_n C (dk ddX10_exact 14 rfl) rfl ?_
  refine x_callV C (ci := 3) (As := [.ref (a + 1), .int (nI j)]) (k_X3_load l D T o (d - 1) G I L (a + 483) (a + 1) j g h (gn g) (gc g) (gn h) (gc h) hC.work hC.state (by omega) hf_j (by repeat (first | exact ax_u_at _ _ _ _ | exact hg_j | rw [ax_u_ne (by omega)] | rw [ax_u_nj (by decide)] | rw [ax_sc_ne (by omega)] | rw [ax_rem_ne (by omega) (by omega)] | unfold ax_ldI | unfold ax_woI | unfold ax_rxI | unfold ax_frI0 | unfold ax_frI1 | unfold ax_frI2 | rw [hI_ _ (by omega)] | rw [hN_ (by omega)])) hl_j (by repeat (first | exact ax_u_at _ _ _ _ | exact hh_j | rw [ax_u_ne (by omega)] | rw [ax_u_nj (by decide)] | rw [ax_sc_ne (by omega)] | rw [ax_rem_ne (by omega) (by omega)] | unfold ax_ldI | unfold ax_woI | unfold ax_rxI | unfold ax_frI0 | unfold ax_frI1 | unfold ax_frI2 | rw [hI_ _ (by omega)] | rw [hN_ (by omega)])) hm_j (by repeat (first | exact ax_u_at _ _ _ _ | exact (hgn g hl_j).1 | rw [ax_u_ne (by omega)] | rw [ax_u_nj (by decide)] | rw [ax_sc_ne (by omega)] | rw [ax_rem_ne (by omega) (by omega)] | unfold ax_ldI | unfold ax_woI | unfold ax_rxI | unfold ax_frI0 | unfold ax_frI1 | unfold ax_frI2 | rw [hI_ _ (by omega)] | rw [hN_ (by omega)])) (hgn g hl_j).2 (by repeat (first | exact ax_u_at _ _ _ _ | exact (hgc g hl_j).1 | rw [ax_u_ne (by omega)] | rw [ax_u_nj (by decide)] | rw [ax_sc_ne (by omega)] | rw [ax_rem_ne (by omega) (by omega)] | unfold ax_ldI | unfold ax_woI | unfold ax_rxI | unfold ax_frI0 | unfold ax_frI1 | unfold ax_frI2 | rw [hI_ _ (by omega)] | rw [hN_ (by omega)])) (hgc g hl_j).2 (by repeat (first | exact ax_u_at _ _ _ _ | exact (hgn h hm_j).1 | rw [ax_u_ne (by omega)] | rw [ax_u_nj (by decide)] | rw [ax_sc_ne (by omega)] | rw [ax_rem_ne (by omega) (by omega)] | unfold ax_ldI | unfold ax_woI | unfold ax_rxI | unfold ax_frI0 | unfold ax_frI1 | unfold ax_frI2 | rw [hI_ _ (by omega)] | rw [hN_ (by omega)])) (hgn h hm_j).2 (by repeat (first | exact ax_u_at _ _ _ _ | exact (hgc h hm_j).1 | rw [ax_u_ne (by omega)] | rw [ax_u_nj (by decide)] | rw [ax_sc_ne (by omega)] | rw [ax_rem_ne (by omega) (by omega)] | unfold ax_ldI | unfold ax_woI | unfold ax_rxI | unfold ax_frI0 | unfold ax_frI1 | unfold ax_frI2 | rw [hI_ _ (by omega)] | rw [hN_ (by omega)])) (hgc h hm_j).2 (by omega)) mlX10_227 rfl rfl (by have h_ := hC.work.1; omega) hC.work.fld.1 ⟨by show d - 1 + 1 ≤ d; omega, by show 40 * (d - 1 + 1) ≤ 40 * d; omega⟩ ⟨Nat.le_refl _, Nat.le_refl _⟩ rfl (Nat.le_of_ble_eq_true rfl) (dk ddX10_exact 15 rfl) ?_
  rintro v_ G_ I_ L_ ⟨rfl, rfl, rfl, rfl⟩
  refine x_if_eq_b C (tgt := 69) (dk ddX10_exact 16 rfl) (by decide) (fun h30 => ?_) (fun h30 => ?_)
  · refine x_bipush C (v := (-4)) (dk ddX10_exact 35 rfl) (by decide) ?_
    exact x_iret C rfl ⟨(by unfold ax_exv; rw [if_neg (Bool.eq_false_iff.mp h30)] <;> rfl), rfl, (by unfold ax_exI; rw [if_neg (Bool.eq_false_iff.mp h30)] <;> rfl), (by unfold ax_exL; rw [if_neg (Bool.eq_false_iff.mp h30)] <;> rfl)⟩ rfl rfl (dk ddX10_exact 36 rfl)
  · refine x_aload_n C (dk ddX10_exact 17 rfl) rfl ?_
    refine x_getr C flX10_63 rfl (by have h_ := hC.1; omega) hC.fld.1 (show ax_R G a 9 = some (a + 540) from hC.fld.2.2 (9, 540) (by decide)) (dk ddX10_exact 18 rfl) ?_
    refine x_aload_n C (dk ddX10_exact 19 rfl) rfl ?_
    refine x_getr C flX10_10 rfl (by have h_ := hC.1; omega) hC.fld.1 (show ax_R G a 0 = some (a + 1) from hC.fld.2.2 (0, 1) (by decide)) (dk ddX10_exact 20 rfl) ?_
    refine x_iload_n C (dk ddX10_exact 21 rfl) rfl ?_
    refine x_callV C (ci := 3) (As := [.ref (a + 1), .int (nI i)]) (k_X3_load l D T o (d - 1) G (ax_ldI I (a + 483) (gn g) (gn h)) (ax_ldL I L (a + 483) (a + 1) j g h (gn g) (gc g) (gn h) (gc h)) (a + 540) (a + 1) i p q (gn p) (gc p) (gn q) (gc q) hC.nextWork hC.state (by omega) hf_i (by repeat (first | exact ax_u_at _ _ _ _ | exact hg_i | rw [ax_u_ne (by omega)] | rw [ax_u_nj (by decide)] | rw [ax_sc_ne (by omega)] | rw [ax_rem_ne (by omega) (by omega)] | unfold ax_ldI | unfold ax_woI | unfold ax_rxI | unfold ax_frI0 | unfold ax_frI1 | unfold ax_frI2 | rw [hI_ _ (by omega)] | rw [hN_ (by omega)])) hl_i (by repeat (first | exact ax_u_at _ _ _ _ | exact hh_i | rw [ax_u_ne (by omega)] | rw [ax_u_nj (by decide)] | rw [ax_sc_ne (by omega)] | rw [ax_rem_ne (by omega) (by omega)] | unfold ax_ldI | unfold ax_woI | unfold ax_rxI | unfold ax_frI0 | unfold ax_frI1 | unfold ax_frI2 | rw [hI_ _ (by omega)] | rw [hN_ (by omega)])) hm_i (by repeat (first | exact ax_u_at _ _ _ _ | exact (hgn p hl_i).1 | rw [ax_u_ne (by omega)] | rw [ax_u_nj (by decide)] | rw [ax_sc_ne (by omega)] | rw [ax_rem_ne (by omega) (by omega)] | unfold ax_ldI | unfold ax_woI | unfold ax_rxI | unfold ax_frI0 | unfold ax_frI1 | unfold ax_frI2 | rw [hI_ _ (by omega)] | rw [hN_ (by omega)])) (hgn p hl_i).2 (by repeat (first | exact ax_u_at _ _ _ _ | exact (hgc p hl_i).1 | rw [ax_u_ne (by omega)] | rw [ax_u_nj (by decide)] | rw [ax_sc_ne (by omega)] | rw [ax_rem_ne (by omega) (by omega)] | unfold ax_ldI | unfold ax_woI | unfold ax_rxI | unfold ax_frI0 | unfold ax_frI1 | unfold ax_frI2 | rw [hI_ _ (by omega)] | rw [hN_ (by omega)])) (hgc p hl_i).2 (by repeat (first | exact ax_u_at _ _ _ _ | exact (hgn q hm_i).1 | rw [ax_u_ne (by omega)] | rw [ax_u_nj (by decide)] | rw [ax_sc_ne (by omega)] | rw [ax_rem_ne (by omega) (by omega)] | unfold ax_ldI | unfold ax_woI | unfold ax_rxI | unfold ax_frI0 | unfold ax_frI1 | unfold ax_frI2 | rw [hI_ _ (by omega)] | rw [hN_ (by omega)])) (hgn q hm_i).2 (by repeat (first | exact ax_u_at _ _ _ _ | exact (hgc q hm_i).1 | rw [ax_u_ne (by omega)] | rw [ax_u_nj (by decide)] | rw [ax_sc_ne (by omega)] | rw [ax_rem_ne (by omega) (by omega)] | unfold ax_ldI | unfold ax_woI | unfold ax_rxI | unfold ax_frI0 | unfold ax_frI1 | unfold ax_frI2 | rw [hI_ _ (by omega)] | rw [hN_ (by omega)])) (hgc q hm_i).2 (by omega)) mlX10_227 rfl rfl (by have h_ := hC.nextWork.1; omega) hC.nextWork.fld.1 ⟨by show d - 1 + 1 ≤ d; omega, by show 40 * (d - 1 + 1) ≤ 40 * d; omega⟩ ⟨Nat.le_refl _, Nat.le_refl _⟩ rfl (Nat.le_of_ble_eq_true rfl) (dk ddX10_exact 22 rfl) ?_
    rintro v_ G_ I_ L_ ⟨rfl, rfl, rfl, rfl⟩
    refine x_if_eq_b C (tgt := 69) (dk ddX10_exact 23 rfl) (by decide) (fun h45 => ?_) (fun h45 => ?_)
    · refine x_bipush C (v := (-4)) (dk ddX10_exact 35 rfl) (by decide) ?_
      exact x_iret C rfl ⟨(by unfold ax_exv; rw [if_pos h30, if_neg (Bool.eq_false_iff.mp h45)] <;> rfl), rfl, (by unfold ax_exI; rw [if_pos h30, if_neg (Bool.eq_false_iff.mp h45)] <;> rfl), (by unfold ax_exL; rw [if_pos h30, if_neg (Bool.eq_false_iff.mp h45)] <;> rfl)⟩ rfl rfl (dk ddX10_exact 36 rfl)
    · refine x_aload_n C (dk ddX10_exact 24 rfl) rfl ?_
      refine x_getr C flX10_10 rfl (by have h_ := hC.1; omega) hC.fld.1 (show ax_R G a 0 = some (a + 1) from hC.fld.2.2 (0, 1) (by decide)) (dk ddX10_exact 25 rfl) ?_
      refine x_getr C flX10_224 rfl (by have h_ := hC.state.1; omega) (show ax_K G (a + 1) = 8 + 7 from (hC.state.2 0 _ rfl).1) (show ax_R G (a + 1) 4 = some (a + 1 + 5) from (hC.state.2 0 _ rfl).2.2 (4, 5) (by decide)) (dk ddX10_exact 26 rfl) ?_
      refine x_iload_n C (dk ddX10_exact 27 rfl) rfl ?_
      refine x_iald_n C (by have h_ := hC.state.1; omega) (show ax_K G (a + 1 + 5) = 0 from (hC.state.2 5 _ rfl).1) (show ax_N G (a + 1 + 5) = 8 from (hC.state.2 5 _ rfl).2.1) (by omega) (by decide) (dk ddX10_exact 28 rfl) ?_
      rw [show ((ax_ldI (ax_ldI I (a + 483) (gn g) (gn h)) (a + 540) (gn p) (gn q)) (a + 1 + 5) j) = nI h from (by repeat (first | exact ax_u_at _ _ _ _ | exact hh_j | rw [ax_u_ne (by omega)] | rw [ax_u_nj (by decide)] | rw [ax_sc_ne (by omega)] | rw [ax_rem_ne (by omega) (by omega)] | unfold ax_ldI | unfold ax_woI | unfold ax_rxI | unfold ax_frI0 | unfold ax_frI1 | unfold ax_frI2 | rw [hI_ _ (by omega)] | rw [hN_ (by omega)]))]
      refine x_aload_n C (dk ddX10_exact 29 rfl) rfl ?_
      refine x_getr C flX10_10 rfl (by have h_ := hC.1; omega) hC.fld.1 (show ax_R G a 0 = some (a + 1) from hC.fld.2.2 (0, 1) (by decide)) (dk ddX10_exact 30 rfl) ?_
      refine x_getr C flX10_221 rfl (by have h_ := hC.state.1; omega) (show ax_K G (a + 1) = 8 + 7 from (hC.state.2 0 _ rfl).1) (show ax_R G (a + 1) 3 = some (a + 1 + 4) from (hC.state.2 0 _ rfl).2.2 (3, 4) (by decide)) (dk ddX10_exact 31 rfl) ?_
      refine x_iload_n C (dk ddX10_exact 32 rfl) rfl ?_
      refine x_iald_n C (by have h_ := hC.state.1; omega) (show ax_K G (a + 1 + 4) = 0 from (hC.state.2 4 _ rfl).1) (show ax_N G (a + 1 + 4) = 8 from (hC.state.2 4 _ rfl).2.1) (by omega) (by decide) (dk ddX10_exact 33 rfl) ?_
      rw [show ((ax_ldI (ax_ldI I (a + 483) (gn g) (gn h)) (a + 540) (gn p) (gn q)) (a + 1 + 4) i) = nI p from (by repeat (first | exact ax_u_at _ _ _ _ | exact hg_i | rw [ax_u_ne (by omega)] | rw [ax_u_nj (by decide)] | rw [ax_sc_ne (by omega)] | rw [ax_rem_ne (by omega) (by omega)] | unfold ax_ldI | unfold ax_woI | unfold ax_rxI | unfold ax_frI0 | unfold ax_frI1 | unfold ax_frI2 | rw [hI_ _ (by omega)] | rw [hN_ (by omega)]))]
      refine x_icmp_eq_n C (tgt := 72) (dk ddX10_exact 34 rfl) (by decide) (by omega) (by omega) (fun h66 => ?_) (fun h66 => ?_)
      · refine x_aload_n C (dk ddX10_exact 37 rfl) rfl ?_
        refine x_getr C flX10_59 rfl (by have h_ := hC.1; omega) hC.fld.1 (show ax_R G a 8 = some (a + 483) from hC.fld.2.2 (8, 483) (by decide)) (dk ddX10_exact 38 rfl) ?_
        refine x_aload_n C (dk ddX10_exact 39 rfl) rfl ?_
        refine x_getr C flX10_10 rfl (by have h_ := hC.1; omega) hC.fld.1 (show ax_R G a 0 = some (a + 1) from hC.fld.2.2 (0, 1) (by decide)) (dk ddX10_exact 40 rfl) ?_
        refine x_iload_n C (dk ddX10_exact 41 rfl) rfl ?_
        refine x_callV C (ci := 3) (As := [.ref (a + 1), .int (nI j)]) (k_X3_workOut l D T o (d - 1) G (ax_ldI (ax_ldI I (a + 483) (gn g) (gn h)) (a + 540) (gn p) (gn q)) (ax_ldL (ax_ldI I (a + 483) (gn g) (gn h)) (ax_ldL I L (a + 483) (a + 1) j g h (gn g) (gc g) (gn h) (gc h)) (a + 540) (a + 1) i p q (gn p) (gc p) (gn q) (gc q)) (a + 483) (a + 1) j (gn g) (gn h) hC.work hC.state (by omega) hf_j (by repeat (first | exact ax_u_at _ _ _ _ | rw [ax_u_ne (by omega)] | rw [ax_u_nj (by decide)] | rw [ax_sc_ne (by omega)] | rw [ax_rem_ne (by omega) (by omega)] | unfold ax_ldI | unfold ax_woI | unfold ax_rxI | unfold ax_frI0 | unfold ax_frI1 | unfold ax_frI2 | rw [hI_ _ (by omega)] | rw [hN_ (by omega)])) (hgn g hl_j).2 (by repeat (first | exact ax_u_at _ _ _ _ | rw [ax_u_ne (by omega)] | rw [ax_u_nj (by decide)] | rw [ax_sc_ne (by omega)] | rw [ax_rem_ne (by omega) (by omega)] | unfold ax_ldI | unfold ax_woI | unfold ax_rxI | unfold ax_frI0 | unfold ax_frI1 | unfold ax_frI2 | rw [hI_ _ (by omega)] | rw [hN_ (by omega)])) (hgn h hm_j).2 (by omega)) mlX10_231 rfl rfl (by have h_ := hC.work.1; omega) hC.work.fld.1 ⟨by show d - 1 + 1 ≤ d; omega, by show 40 * (d - 1 + 1) ≤ 40 * d; omega⟩ ⟨Nat.le_refl _, Nat.le_refl _⟩ rfl (Nat.le_of_ble_eq_true rfl) (dk ddX10_exact 42 rfl) ?_
        rintro v_ G_ I_ L_ ⟨rfl, rfl, rfl, rfl⟩
        refine x_aload_n C (dk ddX10_exact 43 rfl) rfl ?_
        refine x_getr C flX10_63 rfl (by have h_ := hC.1; omega) hC.fld.1 (show ax_R G a 9 = some (a + 540) from hC.fld.2.2 (9, 540) (by decide)) (dk ddX10_exact 44 rfl) ?_
        refine x_aload_n C (dk ddX10_exact 45 rfl) rfl ?_
        refine x_getr C flX10_10 rfl (by have h_ := hC.1; omega) hC.fld.1 (show ax_R G a 0 = some (a + 1) from hC.fld.2.2 (0, 1) (by decide)) (dk ddX10_exact 46 rfl) ?_
        refine x_iload_n C (dk ddX10_exact 47 rfl) rfl ?_
        refine x_callV C (ci := 3) (As := [.ref (a + 1), .int (nI i)]) (k_X3_workOut l D T o (d - 1) G (ax_woI (ax_ldI (ax_ldI I (a + 483) (gn g) (gn h)) (a + 540) (gn p) (gn q)) (a + 483) (gn g) (gn h)) (ax_woL (ax_ldI (ax_ldI I (a + 483) (gn g) (gn h)) (a + 540) (gn p) (gn q)) (ax_ldL (ax_ldI I (a + 483) (gn g) (gn h)) (ax_ldL I L (a + 483) (a + 1) j g h (gn g) (gc g) (gn h) (gc h)) (a + 540) (a + 1) i p q (gn p) (gc p) (gn q) (gc q)) (a + 483) (a + 1) j (gn g) (gn h)) (a + 540) (a + 1) i (gn p) (gn q) hC.nextWork hC.state (by omega) hf_i (by repeat (first | exact ax_u_at _ _ _ _ | rw [ax_u_ne (by omega)] | rw [ax_u_nj (by decide)] | rw [ax_sc_ne (by omega)] | rw [ax_rem_ne (by omega) (by omega)] | unfold ax_ldI | unfold ax_woI | unfold ax_rxI | unfold ax_frI0 | unfold ax_frI1 | unfold ax_frI2 | rw [hI_ _ (by omega)] | rw [hN_ (by omega)])) (hgn p hl_i).2 (by repeat (first | exact ax_u_at _ _ _ _ | rw [ax_u_ne (by omega)] | rw [ax_u_nj (by decide)] | rw [ax_sc_ne (by omega)] | rw [ax_rem_ne (by omega) (by omega)] | unfold ax_ldI | unfold ax_woI | unfold ax_rxI | unfold ax_frI0 | unfold ax_frI1 | unfold ax_frI2 | rw [hI_ _ (by omega)] | rw [hN_ (by omega)])) (hgn q hm_i).2 (by omega)) mlX10_231 rfl rfl (by have h_ := hC.nextWork.1; omega) hC.nextWork.fld.1 ⟨by show d - 1 + 1 ≤ d; omega, by show 40 * (d - 1 + 1) ≤ 40 * d; omega⟩ ⟨Nat.le_refl _, Nat.le_refl _⟩ rfl (Nat.le_of_ble_eq_true rfl) (dk ddX10_exact 48 rfl) ?_
        rintro v_ G_ I_ L_ ⟨rfl, rfl, rfl, rfl⟩
        refine x_aload_n C (dk ddX10_exact 49 rfl) rfl ?_
        refine x_getr C flX10_59 rfl (by have h_ := hC.1; omega) hC.fld.1 (show ax_R G a 8 = some (a + 483) from hC.fld.2.2 (8, 483) (by decide)) (dk ddX10_exact 50 rfl) ?_
        refine x_getr C flX10_256 rfl (by have h_ := hC.work.1; omega) hC.work.fld.1 (show ax_R G (a + 483) 2 = some (a + 483 + 19) from hC.work.fld.2.2 (2, 19) (by decide)) (dk ddX10_exact 51 rfl) ?_
        refine x_aload_n C (dk ddX10_exact 52 rfl) rfl ?_
        refine x_getr C flX10_63 rfl (by have h_ := hC.1; omega) hC.fld.1 (show ax_R G a 9 = some (a + 540) from hC.fld.2.2 (9, 540) (by decide)) (dk ddX10_exact 53 rfl) ?_
        refine x_getr C flX10_259 rfl (by have h_ := hC.nextWork.1; omega) hC.nextWork.fld.1 (show ax_R G (a + 540) 3 = some (a + 540 + 28) from hC.nextWork.fld.2.2 (3, 28) (by decide)) (dk ddX10_exact 54 rfl) ?_
        refine x_callV C (ci := 2) (As := [.ref (a + 540 + 28)]) (k_X2_isAsD l D T o (d - 1) G (ax_woI (ax_woI (ax_ldI (ax_ldI I (a + 483) (gn g) (gn h)) (a + 540) (gn p) (gn q)) (a + 483) (gn g) (gn h)) (a + 540) (gn p) (gn q)) (ax_woL (ax_woI (ax_ldI (ax_ldI I (a + 483) (gn g) (gn h)) (a + 540) (gn p) (gn q)) (a + 483) (gn g) (gn h)) (ax_woL (ax_ldI (ax_ldI I (a + 483) (gn g) (gn h)) (a + 540) (gn p) (gn q)) (ax_ldL (ax_ldI I (a + 483) (gn g) (gn h)) (ax_ldL I L (a + 483) (a + 1) j g h (gn g) (gc g) (gn h) (gc h)) (a + 540) (a + 1) i p q (gn p) (gc p) (gn q) (gc q)) (a + 483) (a + 1) j (gn g) (gn h)) (a + 540) (a + 1) i (gn p) (gn q)) (a + 483 + 19) (gn h) (a + 540 + 28) (gn p) hC.work.reach (by repeat (first | exact ax_u_at _ _ _ _ | rw [ax_u_ne (by omega)] | rw [ax_u_nj (by decide)] | rw [ax_sc_ne (by omega)] | rw [ax_rem_ne (by omega) (by omega)] | unfold ax_ldI | unfold ax_woI | unfold ax_rxI | unfold ax_frI0 | unfold ax_frI1 | unfold ax_frI2 | rw [hI_ _ (by omega)] | rw [hN_ (by omega)])) (Nat.le_trans (hgn h (by omega)).2 (by decide)) hC.nextWork.kernel (by refine Eq.trans (b := nI ((gn q) + (gn p) - (gn q))) ?_ (congrArg nI (Nat.add_sub_cancel_left ..)); exact (by repeat (first | exact ax_u_at _ _ _ _ | rw [ax_u_ne (by omega)] | rw [ax_u_nj (by decide)] | rw [ax_sc_ne (by omega)] | rw [ax_rem_ne (by omega) (by omega)] | unfold ax_ldI | unfold ax_woI | unfold ax_rxI | unfold ax_frI0 | unfold ax_frI1 | unfold ax_frI2 | rw [hI_ _ (by omega)] | rw [hN_ (by omega)]))) (Nat.le_trans (hgn p (by omega)).2 (by decide))) mlX10_262 rfl rfl (by have h_ := hC.work.reach.1; omega) hC.work.reach.2.1 ⟨by show d - 1 + 1 ≤ d; omega, by show 40 * (d - 1 + 1) ≤ 40 * d; omega⟩ ⟨Nat.le_refl _, Nat.le_refl _⟩ rfl (Nat.le_of_ble_eq_true rfl) (dk ddX10_exact 55 rfl) ?_
        rintro v_ G_ I_ L_ ⟨rfl, rfl, rfl, rfl⟩
        refine x_if_eq_b C (tgt := 120) (dk ddX10_exact 56 rfl) (by decide) (fun h113 => ?_) (fun h113 => ?_)
        · refine x_iconst C (v := nI 0) (dk ddX10_exact 59 rfl) (by decide) ?_
          exact x_iret C rfl ⟨(by unfold ax_exv; rw [if_pos h30, if_pos h45, if_pos h66, if_neg (Bool.eq_false_iff.mp h113)] <;> rfl), rfl, (by unfold ax_exI; rw [if_pos h30, if_pos h45, if_pos h66] <;> rfl), (by unfold ax_exL; rw [if_pos h30, if_pos h45, if_pos h66] <;> rfl)⟩ rfl rfl (dk ddX10_exact 60 rfl)
        · refine x_iconst C (v := nI 1) (dk ddX10_exact 57 rfl) (by decide) ?_
          refine x_goto C (tgt := 121) (dk ddX10_exact 58 rfl) (by decide) ?_
          exact x_iret C rfl ⟨(by unfold ax_exv; rw [if_pos h30, if_pos h45, if_pos h66, if_pos h113] <;> rfl), rfl, (by unfold ax_exI; rw [if_pos h30, if_pos h45, if_pos h66] <;> rfl), (by unfold ax_exL; rw [if_pos h30, if_pos h45, if_pos h66] <;> rfl)⟩ rfl rfl (dk ddX10_exact 60 rfl)
      · refine x_bipush C (v := (-4)) (dk ddX10_exact 35 rfl) (by decide) ?_
        exact x_iret C rfl ⟨(by unfold ax_exv; rw [if_pos h30, if_pos h45, if_neg h66] <;> rfl), rfl, (by unfold ax_exI; rw [if_pos h30, if_pos h45, if_neg h66] <;> rfl), (by unfold ax_exL; rw [if_pos h30, if_pos h45, if_neg h66] <;> rfl)⟩ rfl rfl (dk ddX10_exact 36 rfl)
