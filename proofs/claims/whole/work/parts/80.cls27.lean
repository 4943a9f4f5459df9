/-! ===== the class: the host ===== -/
theorem ax_nn1 {u : Nat} (h : u < 2 ^ 31) : ¬ nI u < -1 := by
  intro z
  have h0 := nI_pos (n := u) h
  exact h0 (Int32.lt_trans z (by decide))
theorem ax_nn2 {u : Nat} (h : u < 2 ^ 31) : ¬ nI u = -1 := by
  intro z
  have h0 := nI_pos (n := u) h
  rw [z] at h0
  exact h0 (by decide)
set_option maxRecDepth 20000 in
/-- sheet, refused -/
theorem k_X10_sheet_bad (l : Launch) (D : va_G) (T : Nat → ClassId) (o d : Nat) (G : ax_G) (I : ax_I) (L : ax_L) (a : Nat) (j u n : Int32) (hC : ax_Cls G a) (hbad : ax_rng j 4 = false ∨ u < -1 ∨ nI 2 < u) (hd : 3 ≤ d) : ax_Con l D T o yX10_sheet cX10_sheet 4 (some .int) d 0 0 [.ref a, .int j, .int u, .int n] G I L (fun zz G' I' L' => zz = some (.int ((-1))) ∧ G = G' ∧ I = I' ∧ L = L') := by
  refine ax_enter (by decide +kernel) (Nat.le_of_ble_eq_true rfl) ?_
  intro p_ e_ s_ m_ args_ below_ meth_ c_ C _
  refine x_lvs (lv' := [(0, .ref a), (1, .int j), (2, .int u), (3, .int n)]) rfl ?_
  refine x_iload_n C (dk ddX10_sheet 0 rfl) rfl ?_
  refine x_callS C (As := [.int j]) (k_X10_isSheet l D T o (d - 1) G I L j) mlX10_183 ⟨by show d - 1 + 1 ≤ d; omega, by show 40 * (d - 1 + 1) ≤ 40 * d; omega⟩ ⟨Nat.le_refl _, Nat.le_refl _⟩ rfl (Nat.le_of_ble_eq_true rfl) (dk ddX10_sheet 1 rfl) ?_
  rintro v_ G_ I_ L_ ⟨rfl, rfl, rfl, rfl⟩
  refine x_if_eq_b C (tgt := 17) (dk ddX10_sheet 2 rfl) (by decide) (fun h4 => ?_) (fun h4 => ?_)
  · refine x_iconst C (v := (-1)) (dk ddX10_sheet 9 rfl) (by decide) ?_
    exact x_iret C rfl ⟨rfl, rfl, rfl, rfl⟩ rfl rfl (dk ddX10_sheet 10 rfl)
  · refine x_iload_n C (dk ddX10_sheet 3 rfl) rfl ?_
    refine x_iconst C (v := (-1)) (dk ddX10_sheet 4 rfl) (by decide) ?_
    refine x_icmp_lt C (tgt := 17) (dk ddX10_sheet 5 rfl) (by decide) (fun h9 => ?_) (fun h9 => ?_)
    · have h9c := Int32.not_le.mpr h9
      refine x_iconst C (v := (-1)) (dk ddX10_sheet 9 rfl) (by decide) ?_
      exact x_iret C rfl ⟨rfl, rfl, rfl, rfl⟩ rfl rfl (dk ddX10_sheet 10 rfl)
    · have h9c := Int32.not_lt.mp h9
      refine x_iload_n C (dk ddX10_sheet 6 rfl) rfl ?_
      refine x_iconst C (v := nI 2) (dk ddX10_sheet 7 rfl) (by decide) ?_
      refine x_icmp_le C (tgt := 19) (dk ddX10_sheet 8 rfl) (by decide) (fun h14 => ?_) (fun h14 => ?_)
      · have h14c := Int32.not_lt.mpr h14
        exfalso
        rcases hbad with hq_ | hq_ | hq_ <;> first | exact absurd hq_ (by assumption) | (simp_all; done)
      · have h14c := Int32.not_le.mp h14
        refine x_iconst C (v := (-1)) (dk ddX10_sheet 9 rfl) (by decide) ?_
        exact x_iret C rfl ⟨rfl, rfl, rfl, rfl⟩ rfl rfl (dk ddX10_sheet 10 rfl)
set_option maxRecDepth 20000 in
/-- sheet(j, -1, n) -/
theorem k_X10_sheet_none (l : Launch) (D : va_G) (T : Nat → ClassId) (o d : Nat) (G : ax_G) (I : ax_I) (L : ax_L) (a j : Nat) (n : Int32) (hC : ax_Cls G a) (hj : j < 4) (hd : 3 ≤ d) : ax_Con l D T o yX10_sheet cX10_sheet 4 (some .int) d 0 0 [.ref a, .int (nI j), .int (-1), .int n] G I L (fun zz G' I' L' => zz = some (.int (nI 1)) ∧ G = G' ∧ (ax_u (ax_u I (a + (623 + 2 * j)) 0 (-1)) (a + (623 + 2 * j)) 1 (nI 0)) = I' ∧ (ax_fl1 (a + (624 + 2 * j)) 0 40 L) = L') := by
  refine ax_enter (by decide +kernel) (Nat.le_of_ble_eq_true rfl) ?_
  intro p_ e_ s_ m_ args_ below_ meth_ c_ C _
  refine x_lvs (lv' := [(0, .ref a), (1, .int (nI j)), (2, .int (-1)), (3, .int n)]) rfl ?_
  refine x_iload_n C (dk ddX10_sheet 0 rfl) rfl ?_
  refine x_callS C (As := [.int (nI j)]) (k_X10_isSheet l D T o (d - 1) G I L (nI j)) mlX10_183 ⟨by show d - 1 + 1 ≤ d; omega, by show 40 * (d - 1 + 1) ≤ 40 * d; omega⟩ ⟨Nat.le_refl _, Nat.le_refl _⟩ rfl (Nat.le_of_ble_eq_true rfl) (dk ddX10_sheet 1 rfl) ?_
  rintro v_ G_ I_ L_ ⟨rfl, rfl, rfl, rfl⟩
  rw [show (ax_rng (nI j) 4) = true from ax_rng_ok (h := 4) (by omega) (by decide)]
  refine x_if_eq_b C (tgt := 17) (dk ddX10_sheet 2 rfl) (by decide) (fun h_ => absurd h_ (by decide)) (fun _ => ?_)
  refine x_iload_n C (dk ddX10_sheet 3 rfl) rfl ?_
  refine x_iconst C (v := (-1)) (dk ddX10_sheet 4 rfl) (by decide) ?_
  refine x_icmp_lt C (tgt := 17) (dk ddX10_sheet 5 rfl) (by decide) (fun h_ => absurd h_ (by decide)) (fun _ => ?_)
  refine x_iload_n C (dk ddX10_sheet 6 rfl) rfl ?_
  refine x_iconst C (v := nI 2) (dk ddX10_sheet 7 rfl) (by decide) ?_
  refine x_icmp_le C (tgt := 19) (dk ddX10_sheet 8 rfl) (by decide) (fun _ => ?_) (fun h_ => absurd h_ (by decide))
  refine x_iload_n C (dk ddX10_sheet 11 rfl) rfl ?_
  refine x_iconst C (v := (-1)) (dk ddX10_sheet 12 rfl) (by decide) ?_
  refine x_icmp_ne C (tgt := 37) (dk ddX10_sheet 13 rfl) (by decide) (fun h_ => absurd h_ (by decide)) (fun _ => ?_)
  refine x_aload_n C (dk ddX10_sheet 14 rfl) rfl ?_
  refine x_getr C flX10_46 rfl (by have h_ := hC.1; omega) hC.fld.1 (show ax_R G a 6 = some (a + 481) from hC.fld.2.2 (6, 481) (by decide)) (dk ddX10_sheet 15 rfl) ?_
  refine x_iload_n C (dk ddX10_sheet 16 rfl) rfl ?_
  refine x_aald5_n C hC.sheets.1 hC.sheets.2.1 hC.sheets.2.2 (by omega) (by decide) (hC.sheet (k := j) (by omega)).1 (dk ddX10_sheet 17 rfl) ?_
  refine x_iconst C (v := (-1)) (dk ddX10_sheet 18 rfl) (by decide) ?_
  refine x_iconst C (v := nI 0) (dk ddX10_sheet 19 rfl) (by decide) ?_
  refine x_callV C (ci := 5) (As := [.int (-1), .int (nI 0)]) (k_X5_renew l D T o (d - 1) G I L (a + (623 + 2 * j)) (a + (624 + 2 * j)) (-1) (nI 0) (hC.sheet (k := j) (by omega)).2 (by omega)) mlX10_338 rfl rfl (hC.sheet (k := j) (by omega)).2.1 (hC.sheet (k := j) (by omega)).2.2.1 ⟨by show d - 1 + 1 ≤ d; omega, by show 40 * (d - 1 + 1) ≤ 40 * d; omega⟩ ⟨Nat.le_refl _, Nat.le_refl _⟩ rfl (Nat.le_of_ble_eq_true rfl) (dk ddX10_sheet 20 rfl) ?_
  rintro v_ G_ I_ L_ ⟨rfl, rfl, rfl, rfl⟩
  refine x_iconst C (v := nI 1) (dk ddX10_sheet 21 rfl) (by decide) ?_
  exact x_iret C rfl ⟨rfl, rfl, rfl, rfl⟩ rfl rfl (dk ddX10_sheet 22 rfl)
set_option maxRecDepth 20000 in
/-- sheet(j, u, n), a size that is refused -/
theorem k_X10_sheet_big (l : Launch) (D : va_G) (T : Nat → ClassId) (o d : Nat) (G : ax_G) (I : ax_I) (L : ax_L) (a j u : Nat) (n : Int32) (hC : ax_Cls G a) (hj : j < 4) (hu : u ≤ 2) (hn : nI 40 < n) (hd : 3 ≤ d) : ax_Con l D T o yX10_sheet cX10_sheet 4 (some .int) d 0 0 [.ref a, .int (nI j), .int (nI u), .int n] G I L (fun zz G' I' L' => zz = some (.int ((-1))) ∧ G = G' ∧ I = I' ∧ L = L') := by
  refine ax_enter (by decide +kernel) (Nat.le_of_ble_eq_true rfl) ?_
  intro p_ e_ s_ m_ args_ below_ meth_ c_ C _
  refine x_lvs (lv' := [(0, .ref a), (1, .int (nI j)), (2, .int (nI u)), (3, .int n)]) rfl ?_
  refine x_iload_n C (dk ddX10_sheet 0 rfl) rfl ?_
  refine x_callS C (As := [.int (nI j)]) (k_X10_isSheet l D T o (d - 1) G I L (nI j)) mlX10_183 ⟨by show d - 1 + 1 ≤ d; omega, by show 40 * (d - 1 + 1) ≤ 40 * d; omega⟩ ⟨Nat.le_refl _, Nat.le_refl _⟩ rfl (Nat.le_of_ble_eq_true rfl) (dk ddX10_sheet 1 rfl) ?_
  rintro v_ G_ I_ L_ ⟨rfl, rfl, rfl, rfl⟩
  rw [show (ax_rng (nI j) 4) = true from ax_rng_ok (h := 4) (by omega) (by decide)]
  refine x_if_eq_b C (tgt := 17) (dk ddX10_sheet 2 rfl) (by decide) (fun h_ => absurd h_ (by decide)) (fun _ => ?_)
  refine x_iload_n C (dk ddX10_sheet 3 rfl) rfl ?_
  refine x_iconst C (v := (-1)) (dk ddX10_sheet 4 rfl) (by decide) ?_
  refine x_icmp_lt C (tgt := 17) (dk ddX10_sheet 5 rfl) (by decide) (fun h9 => ?_) (fun h9 => ?_)
  · have h9c := Int32.not_le.mpr h9
    exfalso
    exact absurd h9 (ax_nn1 (by omega))
  · have h9c := Int32.not_lt.mp h9
    refine x_iload_n C (dk ddX10_sheet 6 rfl) rfl ?_
    refine x_iconst C (v := nI 2) (dk ddX10_sheet 7 rfl) (by decide) ?_
    refine x_icmp_le_n C (tgt := 19) (dk ddX10_sheet 8 rfl) (by decide) (by omega) (by decide) (fun h14 => ?_) (fun h14 => ?_)
    · refine x_iload_n C (dk ddX10_sheet 11 rfl) rfl ?_
      refine x_iconst C (v := (-1)) (dk ddX10_sheet 12 rfl) (by decide) ?_
      refine x_icmp_ne C (tgt := 37) (dk ddX10_sheet 13 rfl) (by decide) (fun h21 => ?_) (fun h21 => ?_)
      · refine x_iload_n C (dk ddX10_sheet 23 rfl) rfl ?_
        refine x_bipush C (v := nI 40) (dk ddX10_sheet 24 rfl) (by decide) ?_
        refine x_icmp_le C (tgt := 45) (dk ddX10_sheet 25 rfl) (by decide) (fun h40 => ?_) (fun h40 => ?_)
        · have h40c := Int32.not_lt.mpr h40
          exfalso
          exact absurd hn (Int32.not_lt.mpr h40)
        · have h40c := Int32.not_le.mp h40
          refine x_iconst C (v := (-1)) (dk ddX10_sheet 26 rfl) (by decide) ?_
          exact x_iret C rfl ⟨rfl, rfl, rfl, rfl⟩ rfl rfl (dk ddX10_sheet 27 rfl)
      · exfalso
        exact absurd h21 (ax_nn2 (by omega))
    · refine x_iconst C (v := (-1)) (dk ddX10_sheet 9 rfl) (by decide) ?_
      exact x_iret C rfl ⟨rfl, rfl, rfl, rfl⟩ rfl rfl (dk ddX10_sheet 10 rfl)
set_option maxRecDepth 20000 in
/-- sheet(j, u, n), a size that is refused -/
theorem k_X10_sheet_small (l : Launch) (D : va_G) (T : Nat → ClassId) (o d : Nat) (G : ax_G) (I : ax_I) (L : ax_L) (a j u : Nat) (n : Int32) (hC : ax_Cls G a) (hj : j < 4) (hu : u ≤ 2) (hn : n < 0) (hd : 3 ≤ d) : ax_Con l D T o yX10_sheet cX10_sheet 4 (some .int) d 0 0 [.ref a, .int (nI j), .int (nI u), .int n] G I L (fun zz G' I' L' => zz = some (.int (if u ≤ 2 then (-14) else (-1))) ∧ G = G' ∧ I = I' ∧ L = L') := by
  refine ax_enter (by decide +kernel) (Nat.le_of_ble_eq_true rfl) ?_
  intro p_ e_ s_ m_ args_ below_ meth_ c_ C _
  refine x_lvs (lv' := [(0, .ref a), (1, .int (nI j)), (2, .int (nI u)), (3, .int n)]) rfl ?_
  refine x_iload_n C (dk ddX10_sheet 0 rfl) rfl ?_
  refine x_callS C (As := [.int (nI j)]) (k_X10_isSheet l D T o (d - 1) G I L (nI j)) mlX10_183 ⟨by show d - 1 + 1 ≤ d; omega, by show 40 * (d - 1 + 1) ≤ 40 * d; omega⟩ ⟨Nat.le_refl _, Nat.le_refl _⟩ rfl (Nat.le_of_ble_eq_true rfl) (dk ddX10_sheet 1 rfl) ?_
  rintro v_ G_ I_ L_ ⟨rfl, rfl, rfl, rfl⟩
  rw [show (ax_rng (nI j) 4) = true from ax_rng_ok (h := 4) (by omega) (by decide)]
  refine x_if_eq_b C (tgt := 17) (dk ddX10_sheet 2 rfl) (by decide) (fun h_ => absurd h_ (by decide)) (fun _ => ?_)
  refine x_iload_n C (dk ddX10_sheet 3 rfl) rfl ?_
  refine x_iconst C (v := (-1)) (dk ddX10_sheet 4 rfl) (by decide) ?_
  refine x_icmp_lt C (tgt := 17) (dk ddX10_sheet 5 rfl) (by decide) (fun h9 => ?_) (fun h9 => ?_)
  · have h9c := Int32.not_le.mpr h9
    exfalso
    exact absurd h9 (ax_nn1 (by omega))
  · have h9c := Int32.not_lt.mp h9
    refine x_iload_n C (dk ddX10_sheet 6 rfl) rfl ?_
    refine x_iconst C (v := nI 2) (dk ddX10_sheet 7 rfl) (by decide) ?_
    refine x_icmp_le_n C (tgt := 19) (dk ddX10_sheet 8 rfl) (by decide) (by omega) (by decide) (fun h14 => ?_) (fun h14 => ?_)
    · refine x_iload_n C (dk ddX10_sheet 11 rfl) rfl ?_
      refine x_iconst C (v := (-1)) (dk ddX10_sheet 12 rfl) (by decide) ?_
      refine x_icmp_ne C (tgt := 37) (dk ddX10_sheet 13 rfl) (by decide) (fun h21 => ?_) (fun h21 => ?_)
      · refine x_iload_n C (dk ddX10_sheet 23 rfl) rfl ?_
        refine x_bipush C (v := nI 40) (dk ddX10_sheet 24 rfl) (by decide) ?_
        refine x_icmp_le C (tgt := 45) (dk ddX10_sheet 25 rfl) (by decide) (fun h40 => ?_) (fun h40 => ?_)
        · have h40c := Int32.not_lt.mpr h40
          refine x_iload_n C (dk ddX10_sheet 28 rfl) rfl ?_
          refine x_if_ge C (tgt := 52) (dk ddX10_sheet 29 rfl) (by decide) (fun h46 => ?_) (fun h46 => ?_)
          · have h46c := Int32.not_lt.mpr h46
            exfalso
            exact absurd hn (Int32.not_lt.mpr h46)
          · have h46c := Int32.not_le.mp h46
            refine x_bipush C (v := (-14)) (dk ddX10_sheet 30 rfl) (by decide) ?_
            exact x_iret C rfl ⟨(by rw [if_pos h14] <;> rfl), rfl, rfl, rfl⟩ rfl rfl (dk ddX10_sheet 31 rfl)
        · have h40c := Int32.not_le.mp h40
          exfalso
          exact absurd (Int32.lt_trans (Int32.not_le.mp h40) hn) (by decide)
      · exfalso
        exact absurd h21 (ax_nn2 (by omega))
    · refine x_iconst C (v := (-1)) (dk ddX10_sheet 9 rfl) (by decide) ?_
      exact x_iret C rfl ⟨(by rw [if_neg (Nat.not_le.mpr h14)] <;> rfl), rfl, rfl, rfl⟩ rfl rfl (dk ddX10_sheet 10 rfl)
set_option maxRecDepth 20000 in
/-- sheet(j, u, n) -/
theorem k_X10_sheet (l : Launch) (D : va_G) (T : Nat → ClassId) (o d : Nat) (G : ax_G) (I : ax_I) (L : ax_L) (a j u n : Nat) (hC : ax_Cls G a) (hj : j < 4) (hu : u ≤ 2) (hn : n ≤ 40) (hd : 3 ≤ d) : ax_Con l D T o yX10_sheet cX10_sheet 4 (some .int) d 0 0 [.ref a, .int (nI j), .int (nI u), .int (nI n)] G I L (fun zz G' I' L' => zz = some (.int (if u ≤ 2 then nI 1 else (-1))) ∧ G = G' ∧ (if u ≤ 2 then ax_u (ax_u I (a + (623 + 2 * j)) 0 (nI u)) (a + (623 + 2 * j)) 1 (nI n) else I) = I' ∧ (if u ≤ 2 then ax_fl1 (a + (624 + 2 * j)) 0 40 L else L) = L') := by
  refine ax_enter (by decide +kernel) (Nat.le_of_ble_eq_true rfl) ?_
  intro p_ e_ s_ m_ args_ below_ meth_ c_ C _
  refine x_lvs (lv' := [(0, .ref a), (1, .int (nI j)), (2, .int (nI u)), (3, .int (nI n))]) rfl ?_
  refine x_iload_n C (dk ddX10_sheet 0 rfl) rfl ?_
  refine x_callS C (As := [.int (nI j)]) (k_X10_isSheet l D T o (d - 1) G I L (nI j)) mlX10_183 ⟨by show d - 1 + 1 ≤ d; omega, by show 40 * (d - 1 + 1) ≤ 40 * d; omega⟩ ⟨Nat.le_refl _, Nat.le_refl _⟩ rfl (Nat.le_of_ble_eq_true rfl) (dk ddX10_sheet 1 rfl) ?_
  rintro v_ G_ I_ L_ ⟨rfl, rfl, rfl, rfl⟩
  rw [show (ax_rng (nI j) 4) = true from ax_rng_ok (h := 4) (by omega) (by decide)]
  refine x_if_eq_b C (tgt := 17) (dk ddX10_sheet 2 rfl) (by decide) (fun h_ => absurd h_ (by decide)) (fun _ => ?_)
  refine x_iload_n C (dk ddX10_sheet 3 rfl) rfl ?_
  refine x_iconst C (v := (-1)) (dk ddX10_sheet 4 rfl) (by decide) ?_
  refine x_icmp_lt C (tgt := 17) (dk ddX10_sheet 5 rfl) (by decide) (fun h9 => ?_) (fun h9 => ?_)
  · have h9c := Int32.not_le.mpr h9
    exfalso
    exact absurd h9 (ax_nn1 (by omega))
  · have h9c := Int32.not_lt.mp h9
    refine x_iload_n C (dk ddX10_sheet 6 rfl) rfl ?_
    refine x_iconst C (v := nI 2) (dk ddX10_sheet 7 rfl) (by decide) ?_
    refine x_icmp_le_n C (tgt := 19) (dk ddX10_sheet 8 rfl) (by decide) (by omega) (by decide) (fun h14 => ?_) (fun h14 => ?_)
    · refine x_iload_n C (dk ddX10_sheet 11 rfl) rfl ?_
      refine x_iconst C (v := (-1)) (dk ddX10_sheet 12 rfl) (by decide) ?_
      refine x_icmp_ne C (tgt := 37) (dk ddX10_sheet 13 rfl) (by decide) (fun h21 => ?_) (fun h21 => ?_)
      · refine x_iload_n C (dk ddX10_sheet 23 rfl) rfl ?_
        refine x_bipush C (v := nI 40) (dk ddX10_sheet 24 rfl) (by decide) ?_
        refine x_icmp_le_n C (tgt := 45) (dk ddX10_sheet 25 rfl) (by decide) (by omega) (by decide) (fun h40 => ?_) (fun h40 => ?_)
        · refine x_iload_n C (dk ddX10_sheet 28 rfl) rfl ?_
          refine x_if_ge_n C (tgt := 52) (dk ddX10_sheet 29 rfl) (by decide) (by omega) (fun h46 => ?_) (fun h46 => ?_)
          · refine x_aload_n C (dk ddX10_sheet 32 rfl) rfl ?_
            refine x_getr C flX10_46 rfl (by have h_ := hC.1; omega) hC.fld.1 (show ax_R G a 6 = some (a + 481) from hC.fld.2.2 (6, 481) (by decide)) (dk ddX10_sheet 33 rfl) ?_
            refine x_iload_n C (dk ddX10_sheet 34 rfl) rfl ?_
            refine x_aald5_n C hC.sheets.1 hC.sheets.2.1 hC.sheets.2.2 (by omega) (by decide) (hC.sheet (k := j) (by omega)).1 (dk ddX10_sheet 35 rfl) ?_
            refine x_iload_n C (dk ddX10_sheet 36 rfl) rfl ?_
            refine x_iload_n C (dk ddX10_sheet 37 rfl) rfl ?_
            refine x_callV C (ci := 5) (As := [.int (nI u), .int (nI n)]) (k_X5_renew l D T o (d - 1) G I L (a + (623 + 2 * j)) (a + (624 + 2 * j)) (nI u) (nI n) (hC.sheet (k := j) (by omega)).2 (by omega)) mlX10_338 rfl rfl (hC.sheet (k := j) (by omega)).2.1 (hC.sheet (k := j) (by omega)).2.2.1 ⟨by show d - 1 + 1 ≤ d; omega, by show 40 * (d - 1 + 1) ≤ 40 * d; omega⟩ ⟨Nat.le_refl _, Nat.le_refl _⟩ rfl (Nat.le_of_ble_eq_true rfl) (dk ddX10_sheet 38 rfl) ?_
            rintro v_ G_ I_ L_ ⟨rfl, rfl, rfl, rfl⟩
            refine x_iconst C (v := nI 1) (dk ddX10_sheet 39 rfl) (by decide) ?_
            exact x_iret C rfl ⟨(by rw [if_pos h14] <;> rfl), rfl, (by rw [if_pos h14] <;> rfl), (by rw [if_pos h14] <;> rfl)⟩ rfl rfl (dk ddX10_sheet 40 rfl)
          · exfalso
            omega
        · exfalso
          omega
      · exfalso
        exact absurd h21 (ax_nn2 (by omega))
    · refine x_iconst C (v := (-1)) (dk ddX10_sheet 9 rfl) (by decide) ?_
      exact x_iret C rfl ⟨(by rw [if_neg (Nat.not_le.mpr h14)] <;> rfl), rfl, (by rw [if_neg (Nat.not_le.mpr h14)] <;> rfl), (by rw [if_neg (Nat.not_le.mpr h14)] <;> rfl)⟩ rfl rfl (dk ddX10_sheet 10 rfl)
set_option maxRecDepth 20000 in
/-- put, refused -/
theorem k_X10_put_bad (l : Launch) (D : va_G) (T : Nat → ClassId) (o d : Nat) (G : ax_G) (I : ax_I) (L : ax_L) (a : Nat) (j i : Int32) (v : Int64) (hC : ax_Cls G a) (hbad : ax_rng j 4 = false) (hd : 3 ≤ d) : ax_Con l D T o yX10_put cX10_put 7 (some .int) d 0 0 [.ref a, .int j, .int i, .long v] G I L (fun zz G' I' L' => zz = some (.int ((-1))) ∧ G = G' ∧ I = I' ∧ L = L') := by
  refine ax_enter (by decide +kernel) (Nat.le_of_ble_eq_true rfl) ?_
  intro p_ e_ s_ m_ args_ below_ meth_ c_ C _
  refine x_lvs (lv' := [(0, .ref a), (1, .int j), (2, .int i), (3, .long v)]) rfl ?_
  refine x_iload_n C (dk ddX10_put 0 rfl) rfl ?_
  refine x_callS C (As := [.int j]) (k_X10_isSheet l D T o (d - 1) G I L j) mlX10_183 ⟨by show d - 1 + 1 ≤ d; omega, by show 40 * (d - 1 + 1) ≤ 40 * d; omega⟩ ⟨Nat.le_refl _, Nat.le_refl _⟩ rfl (Nat.le_of_ble_eq_true rfl) (dk ddX10_put 1 rfl) ?_
  rintro v_ G_ I_ L_ ⟨rfl, rfl, rfl, rfl⟩
  refine x_if_ne_b C (tgt := 9) (dk ddX10_put 2 rfl) (by decide) (fun h4 => ?_) (fun h4 => ?_)
  · exfalso
    first | exact absurd hbad (by assumption) | (simp_all; done)
  · refine x_iconst C (v := (-1)) (dk ddX10_put 3 rfl) (by decide) ?_
    exact x_iret C rfl ⟨rfl, rfl, rfl, rfl⟩ rfl rfl (dk ddX10_put 4 rfl)
set_option maxRecDepth 20000 in
/-- put, no such item -/
theorem k_X10_put_no (l : Launch) (D : va_G) (T : Nat → ClassId) (o d : Nat) (G : ax_G) (I : ax_I) (L : ax_L) (a j : Nat) (i : Int32) (v : Int64) (hC : ax_Cls G a) (hj : j < 4) (hr : ax_rf (I (a + (623 + 2 * j)) 0) (I (a + (623 + 2 * j)) 1) (I (a + (623 + 2 * j)) 0) i (nI 1) < 0) (hd : 3 ≤ d) : ax_Con l D T o yX10_put cX10_put 7 (some .int) d 0 0 [.ref a, .int (nI j), .int i, .long v] G I L (fun zz G' I' L' => zz = some (.int (ax_rf (I (a + (623 + 2 * j)) 0) (I (a + (623 + 2 * j)) 1) (I (a + (623 + 2 * j)) 0) i (nI 1))) ∧ G = G' ∧ I = I' ∧ L = L') := by
  refine ax_enter (by decide +kernel) (Nat.le_of_ble_eq_true rfl) ?_
  intro p_ e_ s_ m_ args_ below_ meth_ c_ C _
  refine x_lvs (lv' := [(0, .ref a), (1, .int (nI j)), (2, .int i), (3, .long v)]) rfl ?_
  refine x_iload_n C (dk ddX10_put 0 rfl) rfl ?_
  refine x_callS C (As := [.int (nI j)]) (k_X10_isSheet l D T o (d - 1) G I L (nI j)) mlX10_183 ⟨by show d - 1 + 1 ≤ d; omega, by show 40 * (d - 1 + 1) ≤ 40 * d; omega⟩ ⟨Nat.le_refl _, Nat.le_refl _⟩ rfl (Nat.le_of_ble_eq_true rfl) (dk ddX10_put 1 rfl) ?_
  rintro v_ G_ I_ L_ ⟨rfl, rfl, rfl, rfl⟩
  rw [show (ax_rng (nI j) 4) = true from ax_rng_ok (h := 4) (by omega) (by decide)]
  refine x_if_ne_b C (tgt := 9) (dk ddX10_put 2 rfl) (by decide) (fun _ => ?_) (fun h_ => absurd h_ (by decide))
  refine x_aload_n C (dk ddX10_put 5 rfl) rfl ?_
  refine x_getr C flX10_46 rfl (by have h_ := hC.1; omega) hC.fld.1 (show ax_R G a 6 = some (a + 481) from hC.fld.2.2 (6, 481) (by decide)) (dk ddX10_put 6 rfl) ?_
  refine x_iload_n C (dk ddX10_put 7 rfl) rfl ?_
  refine x_aald5_n C hC.sheets.1 hC.sheets.2.1 hC.sheets.2.2 (by omega) (by decide) (hC.sheet (k := j) (by omega)).1 (dk ddX10_put 8 rfl) ?_
  refine x_astore C (lv' := [(5, .ref (a + (623 + 2 * j))), (0, .ref a), (1, .int (nI j)), (2, .int i), (3, .long v)]) (dk ddX10_put 9 rfl) (by decide) rfl ?_
  refine x_aload C (dk ddX10_put 10 rfl) rfl ?_
  refine x_aload C (dk ddX10_put 11 rfl) rfl ?_
  refine x_geti C flX10_341 rfl (hC.sheet (k := j) (by omega)).2.1 (hC.sheet (k := j) (by omega)).2.2.1 (dk ddX10_put 12 rfl) ?_
  refine x_iload_n C (dk ddX10_put 13 rfl) rfl ?_
  refine x_iconst C (v := nI 1) (dk ddX10_put 14 rfl) (by decide) ?_
  refine x_callV C (ci := 5) (As := [.int (I (a + (623 + 2 * j)) 0), .int i, .int (nI 1)]) (k_X5_refusal l D T o (d - 1) G I L (a + (623 + 2 * j)) (a + (624 + 2 * j)) (I (a + (623 + 2 * j)) 0) i (nI 1) (hC.sheet (k := j) (by omega)).2) mlX10_186 rfl rfl (hC.sheet (k := j) (by omega)).2.1 (hC.sheet (k := j) (by omega)).2.2.1 ⟨by show d - 1 + 1 ≤ d; omega, by show 40 * (d - 1 + 1) ≤ 40 * d; omega⟩ ⟨Nat.le_refl _, Nat.le_refl _⟩ rfl (Nat.le_of_ble_eq_true rfl) (dk ddX10_put 15 rfl) ?_
  rintro v_ G_ I_ L_ ⟨rfl, rfl, rfl, rfl⟩
  refine x_istore C (lv' := [(6, .int (ax_rf (I (a + (623 + 2 * j)) 0) (I (a + (623 + 2 * j)) 1) (I (a + (623 + 2 * j)) 0) i (nI 1))), (5, .ref (a + (623 + 2 * j))), (0, .ref a), (1, .int (nI j)), (2, .int i), (3, .long v)]) (dk ddX10_put 16 rfl) (by decide) rfl ?_
  refine x_iload C (dk ddX10_put 17 rfl) rfl ?_
  refine x_if_ge C (tgt := 39) (dk ddX10_put 18 rfl) (by decide) (fun h33 => ?_) (fun h33 => ?_)
  · have h33c := Int32.not_lt.mpr h33
    exfalso
    exact absurd hr (Int32.not_lt.mpr h33)
  · have h33c := Int32.not_le.mp h33
    refine x_iload C (dk ddX10_put 19 rfl) rfl ?_
    exact x_iret C rfl ⟨rfl, rfl, rfl, rfl⟩ rfl rfl (dk ddX10_put 20 rfl)
def ax_putL (I : ax_I) (L : ax_L) (a : Nat) (j : Nat) (i : Nat) (v : Int64) : ax_L := if (I (a + (623 + 2 * j)) 0) = 0 then ax_u L (a + (624 + 2 * j)) i v.toInt32.toInt8.toInt32.toInt64 else (if (I (a + (623 + 2 * j)) 0) = (nI 1) then ax_u L (a + (624 + 2 * j)) i v.toInt32.toInt64 else ax_u L (a + (624 + 2 * j)) i v)
set_option maxRecDepth 20000 in
/-- put(j, i, v) -/
theorem k_X10_put (l : Launch) (D : va_G) (T : Nat → ClassId) (o d : Nat) (G : ax_G) (I : ax_I) (L : ax_L) (a j i : Nat) (v : Int64) (hC : ax_Cls G a) (hj : j < 4) (hr : ax_rf (I (a + (623 + 2 * j)) 0) (I (a + (623 + 2 * j)) 1) (I (a + (623 + 2 * j)) 0) (nI i) (nI 1) = nI 0) (hi : i < 40) (hd : 3 ≤ d) : ax_Con l D T o yX10_put cX10_put 7 (some .int) d 0 0 [.ref a, .int (nI j), .int (nI i), .long v] G I L (fun zz G' I' L' => zz = some (.int (nI 1)) ∧ G = G' ∧ I = I' ∧ (ax_putL I L a j i v) = L') := by
  refine ax_enter (by decide +kernel) (Nat.le_of_ble_eq_true rfl) ?_
  intro p_ e_ s_ m_ args_ below_ meth_ c_ C _
  refine x_lvs (lv' := [(0, .ref a), (1, .int (nI j)), (2, .int (nI i)), (3, .long v)]) rfl ?_
  refine x_iload_n C (dk ddX10_put 0 rfl) rfl ?_
  refine x_callS C (As := [.int (nI j)]) (k_X10_isSheet l D T o (d - 1) G I L (nI j)) mlX10_183 ⟨by show d - 1 + 1 ≤ d; omega, by show 40 * (d - 1 + 1) ≤ 40 * d; omega⟩ ⟨Nat.le_refl _, Nat.le_refl _⟩ rfl (Nat.le_of_ble_eq_true rfl) (dk ddX10_put 1 rfl) ?_
  rintro v_ G_ I_ L_ ⟨rfl, rfl, rfl, rfl⟩
  rw [show (ax_rng (nI j) 4) = true from ax_rng_ok (h := 4) (by omega) (by decide)]
  refine x_if_ne_b C (tgt := 9) (dk ddX10_put 2 rfl) (by decide) (fun _ => ?_) (fun h_ => absurd h_ (by decide))
  refine x_aload_n C (dk ddX10_put 5 rfl) rfl ?_
  refine x_getr C flX10_46 rfl (by have h_ := hC.1; omega) hC.fld.1 (show ax_R G a 6 = some (a + 481) from hC.fld.2.2 (6, 481) (by decide)) (dk ddX10_put 6 rfl) ?_
  refine x_iload_n C (dk ddX10_put 7 rfl) rfl ?_
  refine x_aald5_n C hC.sheets.1 hC.sheets.2.1 hC.sheets.2.2 (by omega) (by decide) (hC.sheet (k := j) (by omega)).1 (dk ddX10_put 8 rfl) ?_
  refine x_astore C (lv' := [(5, .ref (a + (623 + 2 * j))), (0, .ref a), (1, .int (nI j)), (2, .int (nI i)), (3, .long v)]) (dk ddX10_put 9 rfl) (by decide) rfl ?_
  refine x_aload C (dk ddX10_put 10 rfl) rfl ?_
  refine x_aload C (dk ddX10_put 11 rfl) rfl ?_
  refine x_geti C flX10_341 rfl (hC.sheet (k := j) (by omega)).2.1 (hC.sheet (k := j) (by omega)).2.2.1 (dk ddX10_put 12 rfl) ?_
  refine x_iload_n C (dk ddX10_put 13 rfl) rfl ?_
  refine x_iconst C (v := nI 1) (dk ddX10_put 14 rfl) (by decide) ?_
  refine x_callV C (ci := 5) (As := [.int (I (a + (623 + 2 * j)) 0), .int (nI i), .int (nI 1)]) (k_X5_refusal l D T o (d - 1) G I L (a + (623 + 2 * j)) (a + (624 + 2 * j)) (I (a + (623 + 2 * j)) 0) (nI i) (nI 1) (hC.sheet (k := j) (by omega)).2) mlX10_186 rfl rfl (hC.sheet (k := j) (by omega)).2.1 (hC.sheet (k := j) (by omega)).2.2.1 ⟨by show d - 1 + 1 ≤ d; omega, by show 40 * (d - 1 + 1) ≤ 40 * d; omega⟩ ⟨Nat.le_refl _, Nat.le_refl _⟩ rfl (Nat.le_of_ble_eq_true rfl) (dk ddX10_put 15 rfl) ?_
  rintro v_ G_ I_ L_ ⟨rfl, rfl, rfl, rfl⟩
  rw [show (ax_rf (I (a + (623 + 2 * j)) 0) (I (a + (623 + 2 * j)) 1) (I (a + (623 + 2 * j)) 0) (nI i) (nI 1)) = nI 0 from hr]
  refine x_istore C (lv' := [(6, .int (nI 0)), (5, .ref (a + (623 + 2 * j))), (0, .ref a), (1, .int (nI j)), (2, .int (nI i)), (3, .long v)]) (dk ddX10_put 16 rfl) (by decide) rfl ?_
  refine x_iload C (dk ddX10_put 17 rfl) rfl ?_
  refine x_if_ge_n C (tgt := 39) (dk ddX10_put 18 rfl) (by decide) (by decide) (fun _ => ?_) (fun h_ => absurd h_ (by decide))
  refine x_aload C (dk ddX10_put 21 rfl) rfl ?_
  refine x_getr C flX10_195 rfl (hC.sheet (k := j) (by omega)).2.1 (hC.sheet (k := j) (by omega)).2.2.1 (hC.sheet (k := j) (by omega)).2.2.2.1 (dk ddX10_put 22 rfl) ?_
  refine x_iload_n C (dk ddX10_put 23 rfl) rfl ?_
  refine x_aload C (dk ddX10_put 24 rfl) rfl ?_
  refine x_geti C flX10_341 rfl (hC.sheet (k := j) (by omega)).2.1 (hC.sheet (k := j) (by omega)).2.2.1 (dk ddX10_put 25 rfl) ?_
  refine x_if_ne C (tgt := 60) (dk ddX10_put 26 rfl) (by decide) (fun h50 => ?_) (fun h50 => ?_)
  · refine x_aload C (dk ddX10_put 32 rfl) rfl ?_
    refine x_geti C flX10_341 rfl (hC.sheet (k := j) (by omega)).2.1 (hC.sheet (k := j) (by omega)).2.2.1 (dk ddX10_put 33 rfl) ?_
    refine x_iconst C (v := nI 1) (dk ddX10_put 34 rfl) (by decide) ?_
    refine x_icmp_ne C (tgt := 75) (dk ddX10_put 35 rfl) (by decide) (fun h66 => ?_) (fun h66 => ?_)
    · refine x_lload_n C (dk ddX10_put 40 rfl) rfl ?_
      refine x_last_n C (hC.sheet (k := j) (by omega)).2.2.2.2.1 (hC.sheet (k := j) (by omega)).2.2.2.2.2.1 (hC.sheet (k := j) (by omega)).2.2.2.2.2.2 (by omega) (by decide) (dk ddX10_put 41 rfl) ?_
      refine x_iconst C (v := nI 1) (dk ddX10_put 42 rfl) (by decide) ?_
      exact x_iret C rfl ⟨rfl, rfl, rfl, (by unfold ax_putL; rw [if_neg h50, if_neg h66] <;> rfl)⟩ rfl rfl (dk ddX10_put 43 rfl)
    · refine x_lload_n C (dk ddX10_put 36 rfl) rfl ?_
      refine x_l2i C (dk ddX10_put 37 rfl) ?_
      refine x_i2l C (dk ddX10_put 38 rfl) ?_
      refine x_goto C (tgt := 76) (dk ddX10_put 39 rfl) (by decide) ?_
      refine x_last_n C (hC.sheet (k := j) (by omega)).2.2.2.2.1 (hC.sheet (k := j) (by omega)).2.2.2.2.2.1 (hC.sheet (k := j) (by omega)).2.2.2.2.2.2 (by omega) (by decide) (dk ddX10_put 41 rfl) ?_
      refine x_iconst C (v := nI 1) (dk ddX10_put 42 rfl) (by decide) ?_
      exact x_iret C rfl ⟨rfl, rfl, rfl, (by unfold ax_putL; rw [if_neg h50, if_pos h66] <;> rfl)⟩ rfl rfl (dk ddX10_put 43 rfl)
  · refine x_lload_n C (dk ddX10_put 27 rfl) rfl ?_
    refine x_l2i C (dk ddX10_put 28 rfl) ?_
    refine x_i2b C (dk ddX10_put 29 rfl) ?_
    refine x_i2l C (dk ddX10_put 30 rfl) ?_
    refine x_goto C (tgt := 76) (dk ddX10_put 31 rfl) (by decide) ?_
    refine x_last_n C (hC.sheet (k := j) (by omega)).2.2.2.2.1 (hC.sheet (k := j) (by omega)).2.2.2.2.2.1 (hC.sheet (k := j) (by omega)).2.2.2.2.2.2 (by omega) (by decide) (dk ddX10_put 41 rfl) ?_
    refine x_iconst C (v := nI 1) (dk ddX10_put 42 rfl) (by decide) ?_
    exact x_iret C rfl ⟨rfl, rfl, rfl, (by unfold ax_putL; rw [if_pos h50] <;> rfl)⟩ rfl rfl (dk ddX10_put 43 rfl)
set_option maxRecDepth 20000 in
/-- item, refused -/
theorem k_X10_item_bad (l : Launch) (D : va_G) (T : Nat → ClassId) (o d : Nat) (G : ax_G) (I : ax_I) (L : ax_L) (a : Nat) (j u i : Int32) (hC : ax_Cls G a) (hbad : ax_rng j 4 = false ∨ u < 0 ∨ nI 2 < u) (hd : 3 ≤ d) : ax_Con l D T o yX10_item cX10_item 5 (some .int) d 0 0 [.ref a, .int j, .int u, .int i] G I L (fun zz G' I' L' => zz = some (.int ((-1))) ∧ G = G' ∧ I = I' ∧ L = L') := by
  refine ax_enter (by decide +kernel) (Nat.le_of_ble_eq_true rfl) ?_
  intro p_ e_ s_ m_ args_ below_ meth_ c_ C _
  refine x_lvs (lv' := [(0, .ref a), (1, .int j), (2, .int u), (3, .int i)]) rfl ?_
  refine x_iload_n C (dk ddX10_item 0 rfl) rfl ?_
  refine x_callS C (As := [.int j]) (k_X10_isSheet l D T o (d - 1) G I L j) mlX10_183 ⟨by show d - 1 + 1 ≤ d; omega, by show 40 * (d - 1 + 1) ≤ 40 * d; omega⟩ ⟨Nat.le_refl _, Nat.le_refl _⟩ rfl (Nat.le_of_ble_eq_true rfl) (dk ddX10_item 1 rfl) ?_
  rintro v_ G_ I_ L_ ⟨rfl, rfl, rfl, rfl⟩
  refine x_if_eq_b C (tgt := 16) (dk ddX10_item 2 rfl) (by decide) (fun h4 => ?_) (fun h4 => ?_)
  · refine x_iconst C (v := (-1)) (dk ddX10_item 8 rfl) (by decide) ?_
    exact x_iret C rfl ⟨rfl, rfl, rfl, rfl⟩ rfl rfl (dk ddX10_item 9 rfl)
  · refine x_iload_n C (dk ddX10_item 3 rfl) rfl ?_
    refine x_if_lt C (tgt := 16) (dk ddX10_item 4 rfl) (by decide) (fun h8 => ?_) (fun h8 => ?_)
    · have h8c := Int32.not_le.mpr h8
      refine x_iconst C (v := (-1)) (dk ddX10_item 8 rfl) (by decide) ?_
      exact x_iret C rfl ⟨rfl, rfl, rfl, rfl⟩ rfl rfl (dk ddX10_item 9 rfl)
    · have h8c := Int32.not_lt.mp h8
      refine x_iload_n C (dk ddX10_item 5 rfl) rfl ?_
      refine x_iconst C (v := nI 2) (dk ddX10_item 6 rfl) (by decide) ?_
      refine x_icmp_le C (tgt := 18) (dk ddX10_item 7 rfl) (by decide) (fun h13 => ?_) (fun h13 => ?_)
      · have h13c := Int32.not_lt.mpr h13
        exfalso
        rcases hbad with hq_ | hq_ | hq_ <;> first | exact absurd hq_ (by assumption) | (simp_all; done)
      · have h13c := Int32.not_le.mp h13
        refine x_iconst C (v := (-1)) (dk ddX10_item 8 rfl) (by decide) ?_
        exact x_iret C rfl ⟨rfl, rfl, rfl, rfl⟩ rfl rfl (dk ddX10_item 9 rfl)
set_option maxRecDepth 20000 in
/-- item, no such item -/
theorem k_X10_item_no (l : Launch) (D : va_G) (T : Nat → ClassId) (o d : Nat) (G : ax_G) (I : ax_I) (L : ax_L) (a j u : Nat) (i : Int32) (hC : ax_Cls G a) (hj : j < 4) (hu : u ≤ 2) (hr : ax_rf (I (a + (623 + 2 * j)) 0) (I (a + (623 + 2 * j)) 1) (nI u) i (nI 1) < 0) (hd : 3 ≤ d) : ax_Con l D T o yX10_item cX10_item 5 (some .int) d 0 0 [.ref a, .int (nI j), .int (nI u), .int i] G I L (fun zz G' I' L' => zz = some (.int (ax_rf (I (a + (623 + 2 * j)) 0) (I (a + (623 + 2 * j)) 1) (nI u) i (nI 1))) ∧ G = G' ∧ I = I' ∧ L = L') := by
  refine ax_enter (by decide +kernel) (Nat.le_of_ble_eq_true rfl) ?_
  intro p_ e_ s_ m_ args_ below_ meth_ c_ C _
  refine x_lvs (lv' := [(0, .ref a), (1, .int (nI j)), (2, .int (nI u)), (3, .int i)]) rfl ?_
  refine x_iload_n C (dk ddX10_item 0 rfl) rfl ?_
  refine x_callS C (As := [.int (nI j)]) (k_X10_isSheet l D T o (d - 1) G I L (nI j)) mlX10_183 ⟨by show d - 1 + 1 ≤ d; omega, by show 40 * (d - 1 + 1) ≤ 40 * d; omega⟩ ⟨Nat.le_refl _, Nat.le_refl _⟩ rfl (Nat.le_of_ble_eq_true rfl) (dk ddX10_item 1 rfl) ?_
  rintro v_ G_ I_ L_ ⟨rfl, rfl, rfl, rfl⟩
  rw [show (ax_rng (nI j) 4) = true from ax_rng_ok (h := 4) (by omega) (by decide)]
  refine x_if_eq_b C (tgt := 16) (dk ddX10_item 2 rfl) (by decide) (fun h_ => absurd h_ (by decide)) (fun _ => ?_)
  refine x_iload_n C (dk ddX10_item 3 rfl) rfl ?_
  refine x_if_lt_n C (tgt := 16) (dk ddX10_item 4 rfl) (by decide) (by omega) (fun h8 => ?_) (fun h8 => ?_)
  · exfalso
    omega
  · refine x_iload_n C (dk ddX10_item 5 rfl) rfl ?_
    refine x_iconst C (v := nI 2) (dk ddX10_item 6 rfl) (by decide) ?_
    refine x_icmp_le_n C (tgt := 18) (dk ddX10_item 7 rfl) (by decide) (by omega) (by decide) (fun h13 => ?_) (fun h13 => ?_)
    · refine x_aload_n C (dk ddX10_item 10 rfl) rfl ?_
      refine x_getr C flX10_46 rfl (by have h_ := hC.1; omega) hC.fld.1 (show ax_R G a 6 = some (a + 481) from hC.fld.2.2 (6, 481) (by decide)) (dk ddX10_item 11 rfl) ?_
      refine x_iload_n C (dk ddX10_item 12 rfl) rfl ?_
      refine x_aald5_n C hC.sheets.1 hC.sheets.2.1 hC.sheets.2.2 (by omega) (by decide) (hC.sheet (k := j) (by omega)).1 (dk ddX10_item 13 rfl) ?_
      refine x_iload_n C (dk ddX10_item 14 rfl) rfl ?_
      refine x_iload_n C (dk ddX10_item 15 rfl) rfl ?_
      refine x_iconst C (v := nI 1) (dk ddX10_item 16 rfl) (by decide) ?_
      refine x_callV C (ci := 5) (As := [.int (nI u), .int i, .int (nI 1)]) (k_X5_refusal l D T o (d - 1) G I L (a + (623 + 2 * j)) (a + (624 + 2 * j)) (nI u) i (nI 1) (hC.sheet (k := j) (by omega)).2) mlX10_186 rfl rfl (hC.sheet (k := j) (by omega)).2.1 (hC.sheet (k := j) (by omega)).2.2.1 ⟨by show d - 1 + 1 ≤ d; omega, by show 40 * (d - 1 + 1) ≤ 40 * d; omega⟩ ⟨Nat.le_refl _, Nat.le_refl _⟩ rfl (Nat.le_of_ble_eq_true rfl) (dk ddX10_item 17 rfl) ?_
      rintro v_ G_ I_ L_ ⟨rfl, rfl, rfl, rfl⟩
      refine x_istore C (lv' := [(4, .int (ax_rf (I (a + (623 + 2 * j)) 0) (I (a + (623 + 2 * j)) 1) (nI u) i (nI 1))), (0, .ref a), (1, .int (nI j)), (2, .int (nI u)), (3, .int i)]) (dk ddX10_item 18 rfl) (by decide) rfl ?_
      refine x_iload C (dk ddX10_item 19 rfl) rfl ?_
      refine x_if_ge C (tgt := 40) (dk ddX10_item 20 rfl) (by decide) (fun h34 => ?_) (fun h34 => ?_)
      · have h34c := Int32.not_lt.mpr h34
        exfalso
        exact absurd hr (Int32.not_lt.mpr h34)
      · have h34c := Int32.not_le.mp h34
        refine x_iload C (dk ddX10_item 21 rfl) rfl ?_
        exact x_iret C rfl ⟨rfl, rfl, rfl, rfl⟩ rfl rfl (dk ddX10_item 22 rfl)
    · exfalso
      omega
set_option maxRecDepth 20000 in
/-- item(j, u, i) -/
theorem k_X10_item (l : Launch) (D : va_G) (T : Nat → ClassId) (o d : Nat) (G : ax_G) (I : ax_I) (L : ax_L) (a j u i : Nat) (hC : ax_Cls G a) (hj : j < 4) (hu : u ≤ 2) (hr : ax_rf (I (a + (623 + 2 * j)) 0) (I (a + (623 + 2 * j)) 1) (nI u) (nI i) (nI 1) = nI 0) (hi : i < 40) (hd : 3 ≤ d) : ax_Con l D T o yX10_item cX10_item 5 (some .int) d 0 0 [.ref a, .int (nI j), .int (nI u), .int (nI i)] G I L (fun zz G' I' L' => zz = some (.int ((L (a + (624 + 2 * j)) i).toInt32)) ∧ G = G' ∧ I = I' ∧ L = L') := by
  refine ax_enter (by decide +kernel) (Nat.le_of_ble_eq_true rfl) ?_
  intro p_ e_ s_ m_ args_ below_ meth_ c_ C _
  refine x_lvs (lv' := [(0, .ref a), (1, .int (nI j)), (2, .int (nI u)), (3, .int (nI i))]) rfl ?_
  refine x_iload_n C (dk ddX10_item 0 rfl) rfl ?_
  refine x_callS C (As := [.int (nI j)]) (k_X10_isSheet l D T o (d - 1) G I L (nI j)) mlX10_183 ⟨by show d - 1 + 1 ≤ d; omega, by show 40 * (d - 1 + 1) ≤ 40 * d; omega⟩ ⟨Nat.le_refl _, Nat.le_refl _⟩ rfl (Nat.le_of_ble_eq_true rfl) (dk ddX10_item 1 rfl) ?_
  rintro v_ G_ I_ L_ ⟨rfl, rfl, rfl, rfl⟩
  rw [show (ax_rng (nI j) 4) = true from ax_rng_ok (h := 4) (by omega) (by decide)]
  refine x_if_eq_b C (tgt := 16) (dk ddX10_item 2 rfl) (by decide) (fun h_ => absurd h_ (by decide)) (fun _ => ?_)
  refine x_iload_n C (dk ddX10_item 3 rfl) rfl ?_
  refine x_if_lt_n C (tgt := 16) (dk ddX10_item 4 rfl) (by decide) (by omega) (fun h8 => ?_) (fun h8 => ?_)
  · exfalso
    omega
  · refine x_iload_n C (dk ddX10_item 5 rfl) rfl ?_
    refine x_iconst C (v := nI 2) (dk ddX10_item 6 rfl) (by decide) ?_
    refine x_icmp_le_n C (tgt := 18) (dk ddX10_item 7 rfl) (by decide) (by omega) (by decide) (fun h13 => ?_) (fun h13 => ?_)
    · refine x_aload_n C (dk ddX10_item 10 rfl) rfl ?_
      refine x_getr C flX10_46 rfl (by have h_ := hC.1; omega) hC.fld.1 (show ax_R G a 6 = some (a + 481) from hC.fld.2.2 (6, 481) (by decide)) (dk ddX10_item 11 rfl) ?_
      refine x_iload_n C (dk ddX10_item 12 rfl) rfl ?_
      refine x_aald5_n C hC.sheets.1 hC.sheets.2.1 hC.sheets.2.2 (by omega) (by decide) (hC.sheet (k := j) (by omega)).1 (dk ddX10_item 13 rfl) ?_
      refine x_iload_n C (dk ddX10_item 14 rfl) rfl ?_
      refine x_iload_n C (dk ddX10_item 15 rfl) rfl ?_
      refine x_iconst C (v := nI 1) (dk ddX10_item 16 rfl) (by decide) ?_
      refine x_callV C (ci := 5) (As := [.int (nI u), .int (nI i), .int (nI 1)]) (k_X5_refusal l D T o (d - 1) G I L (a + (623 + 2 * j)) (a + (624 + 2 * j)) (nI u) (nI i) (nI 1) (hC.sheet (k := j) (by omega)).2) mlX10_186 rfl rfl (hC.sheet (k := j) (by omega)).2.1 (hC.sheet (k := j) (by omega)).2.2.1 ⟨by show d - 1 + 1 ≤ d; omega, by show 40 * (d - 1 + 1) ≤ 40 * d; omega⟩ ⟨Nat.le_refl _, Nat.le_refl _⟩ rfl (Nat.le_of_ble_eq_true rfl) (dk ddX10_item 17 rfl) ?_
      rintro v_ G_ I_ L_ ⟨rfl, rfl, rfl, rfl⟩
      rw [show (ax_rf (I (a + (623 + 2 * j)) 0) (I (a + (623 + 2 * j)) 1) (nI u) (nI i) (nI 1)) = nI 0 from hr]
      refine x_istore C (lv' := [(4, .int (nI 0)), (0, .ref a), (1, .int (nI j)), (2, .int (nI u)), (3, .int (nI i))]) (dk ddX10_item 18 rfl) (by decide) rfl ?_
      refine x_iload C (dk ddX10_item 19 rfl) rfl ?_
      refine x_if_ge_n C (tgt := 40) (dk ddX10_item 20 rfl) (by decide) (by decide) (fun _ => ?_) (fun h_ => absurd h_ (by decide))
      refine x_aload_n C (dk ddX10_item 23 rfl) rfl ?_
      refine x_getr C flX10_46 rfl (by have h_ := hC.1; omega) hC.fld.1 (show ax_R G a 6 = some (a + 481) from hC.fld.2.2 (6, 481) (by decide)) (dk ddX10_item 24 rfl) ?_
      refine x_iload_n C (dk ddX10_item 25 rfl) rfl ?_
      refine x_aald5_n C hC.sheets.1 hC.sheets.2.1 hC.sheets.2.2 (by omega) (by decide) (hC.sheet (k := j) (by omega)).1 (dk ddX10_item 26 rfl) ?_
      refine x_getr C flX10_195 rfl (hC.sheet (k := j) (by omega)).2.1 (hC.sheet (k := j) (by omega)).2.2.1 (hC.sheet (k := j) (by omega)).2.2.2.1 (dk ddX10_item 27 rfl) ?_
      refine x_iload_n C (dk ddX10_item 28 rfl) rfl ?_
      refine x_lald_n C (hC.sheet (k := j) (by omega)).2.2.2.2.1 (hC.sheet (k := j) (by omega)).2.2.2.2.2.1 (hC.sheet (k := j) (by omega)).2.2.2.2.2.2 (by omega) (by decide) (dk ddX10_item 29 rfl) ?_
      refine x_l2i C (dk ddX10_item 30 rfl) ?_
      exact x_iret C rfl ⟨rfl, rfl, rfl, rfl⟩ rfl rfl (dk ddX10_item 31 rfl)
    · exfalso
      omega
set_option maxRecDepth 20000 in
/-- lay, refused -/
theorem k_X10_lay_bad (l : Launch) (D : va_G) (T : Nat → ClassId) (o d : Nat) (G : ax_G) (I : ax_I) (L : ax_L) (a : Nat) (j g : Int32) (x y z : Int32) (hC : ax_Cls G a) (hbad : ax_rng j 4 = false ∨ ax_rng g 6 = false ∨ (ax_iw x.toInt64 (999 : Int32).toInt64 && ax_iw y.toInt64 (999 : Int32).toInt64 && ax_iw z.toInt64 (999 : Int32).toInt64) = false) (hd : 3 ≤ d) : ax_Con l D T o yX10_lay cX10_lay 6 (some .int) d 0 0 [.ref a, .int j, .int g, .int x, .int y, .int z] G I L (fun zz G' I' L' => zz = some (.int ((-1))) ∧ G = G' ∧ I = I' ∧ L = L') := by
  refine ax_enter (by decide +kernel) (Nat.le_of_ble_eq_true rfl) ?_
  intro p_ e_ s_ m_ args_ below_ meth_ c_ C _
  refine x_lvs (lv' := [(0, .ref a), (1, .int j), (2, .int g), (3, .int x), (4, .int y), (5, .int z)]) rfl ?_
  refine x_iload_n C (dk ddX10_lay 0 rfl) rfl ?_
  refine x_callS C (As := [.int j]) (k_X10_isShelf l D T o (d - 1) G I L j) mlX10_344 ⟨by show d - 1 + 1 ≤ d; omega, by show 40 * (d - 1 + 1) ≤ 40 * d; omega⟩ ⟨Nat.le_refl _, Nat.le_refl _⟩ rfl (Nat.le_of_ble_eq_true rfl) (dk ddX10_lay 1 rfl) ?_
  rintro v_ G_ I_ L_ ⟨rfl, rfl, rfl, rfl⟩
  refine x_if_eq_b C (tgt := 25) (dk ddX10_lay 2 rfl) (by decide) (fun h4 => ?_) (fun h4 => ?_)
  · refine x_iconst C (v := (-1)) (dk ddX10_lay 11 rfl) (by decide) ?_
    exact x_iret C rfl ⟨rfl, rfl, rfl, rfl⟩ rfl rfl (dk ddX10_lay 12 rfl)
  · refine x_iload_n C (dk ddX10_lay 3 rfl) rfl ?_
    refine x_callS C (As := [.int g]) (k_X10_isGroup l D T o (d - 1) G I L g) mlX10_98 ⟨by show d - 1 + 1 ≤ d; omega, by show 40 * (d - 1 + 1) ≤ 40 * d; omega⟩ ⟨Nat.le_refl _, Nat.le_refl _⟩ rfl (Nat.le_of_ble_eq_true rfl) (dk ddX10_lay 4 rfl) ?_
    rintro v_ G_ I_ L_ ⟨rfl, rfl, rfl, rfl⟩
    refine x_if_eq_b C (tgt := 25) (dk ddX10_lay 5 rfl) (by decide) (fun h11 => ?_) (fun h11 => ?_)
    · refine x_iconst C (v := (-1)) (dk ddX10_lay 11 rfl) (by decide) ?_
      exact x_iret C rfl ⟨rfl, rfl, rfl, rfl⟩ rfl rfl (dk ddX10_lay 12 rfl)
    · refine x_iload_n C (dk ddX10_lay 6 rfl) rfl ?_
      refine x_iload C (dk ddX10_lay 7 rfl) rfl ?_
      refine x_iload C (dk ddX10_lay 8 rfl) rfl ?_
      refine x_callS C (As := [.int x, .int y, .int z]) (k_X10_isElement l D T o (d - 1) G I L x y z (by omega)) mlX10_156 ⟨by show d - 1 + 1 ≤ d; omega, by show 40 * (d - 1 + 1) ≤ 40 * d; omega⟩ ⟨Nat.le_refl _, Nat.le_refl _⟩ rfl (Nat.le_of_ble_eq_true rfl) (dk ddX10_lay 9 rfl) ?_
      rintro v_ G_ I_ L_ ⟨rfl, rfl, rfl, rfl⟩
      refine x_if_ne_b C (tgt := 27) (dk ddX10_lay 10 rfl) (by decide) (fun h22 => ?_) (fun h22 => ?_)
      · exfalso
        rcases hbad with hq_ | hq_ | hq_ <;> first | exact absurd hq_ (by assumption) | (simp_all; done)
      · refine x_iconst C (v := (-1)) (dk ddX10_lay 11 rfl) (by decide) ?_
        exact x_iret C rfl ⟨rfl, rfl, rfl, rfl⟩ rfl rfl (dk ddX10_lay 12 rfl)
def ax_layL (L : ax_L) (a : Nat) (j : Nat) (g : Nat) (x : Int32) (y : Int32) (z : Int32) (gn : Nat → Nat) : ax_L := ax_cp (ax_tl (a + 621) (gn g) x y z L) (a + 621) (a + (632 + 2 * j)) 0 0 3
set_option maxRecDepth 20000 in
/-- lay(j, g, x, y, z) -/
theorem k_X10_lay (l : Launch) (D : va_G) (T : Nat → ClassId) (o d : Nat) (G : ax_G) (I : ax_I) (L : ax_L) (a j g : Nat) (x y z : Int32) (gn gc : Nat → Nat) (hC : ax_Cls G a) (hgn : ∀ g, g < 6 → I (a + 1 + 1) g = nI (gn g) ∧ gn g ≤ 3) (hgc : ∀ g, g < 6 → I (a + 1 + 2) g = nI (gc g) ∧ gc g ≤ 4) (hj : j < 4) (hg : g < 6) (he : (ax_iw x.toInt64 (999 : Int32).toInt64 && ax_iw y.toInt64 (999 : Int32).toInt64 && ax_iw z.toInt64 (999 : Int32).toInt64) = true) (hd : 3 ≤ d) : ax_Con l D T o yX10_lay cX10_lay 6 (some .int) d 0 0 [.ref a, .int (nI j), .int (nI g), .int x, .int y, .int z] G I L (fun zz G' I' L' => zz = some (.int (nI 1)) ∧ G = G' ∧ (ax_u (ax_u (ax_u I (a + (631 + 2 * j)) 0 (nI g)) (a + (631 + 2 * j)) 2 (-1)) (a + (631 + 2 * j)) 3 (nI 0)) = I' ∧ (ax_layL L a j g x y z gn) = L') := by
  refine ax_enter (by decide +kernel) (Nat.le_of_ble_eq_true rfl) ?_
  intro p_ e_ s_ m_ args_ below_ meth_ c_ C _
  refine x_lvs (lv' := [(0, .ref a), (1, .int (nI j)), (2, .int (nI g)), (3, .int x), (4, .int y), (5, .int z)]) rfl ?_
  refine x_iload_n C (dk ddX10_lay 0 rfl) rfl ?_
  refine x_callS C (As := [.int (nI j)]) (k_X10_isShelf l D T o (d - 1) G I L (nI j)) mlX10_344 ⟨by show d - 1 + 1 ≤ d; omega, by show 40 * (d - 1 + 1) ≤ 40 * d; omega⟩ ⟨Nat.le_refl _, Nat.le_refl _⟩ rfl (Nat.le_of_ble_eq_true rfl) (dk ddX10_lay 1 rfl) ?_
  rintro v_ G_ I_ L_ ⟨rfl, rfl, rfl, rfl⟩
  rw [show (ax_rng (nI j) 4) = true from ax_rng_ok (h := 4) (by omega) (by decide)]
  refine x_if_eq_b C (tgt := 25) (dk ddX10_lay 2 rfl) (by decide) (fun h_ => absurd h_ (by decide)) (fun _ => ?_)
  refine x_iload_n C (dk ddX10_lay 3 rfl) rfl ?_
  refine x_callS C (As := [.int (nI g)]) (k_X10_isGroup l D T o (d - 1) G I L (nI g)) mlX10_98 ⟨by show d - 1 + 1 ≤ d; omega, by show 40 * (d - 1 + 1) ≤ 40 * d; omega⟩ ⟨Nat.le_refl _, Nat.le_refl _⟩ rfl (Nat.le_of_ble_eq_true rfl) (dk ddX10_lay 4 rfl) ?_
  rintro v_ G_ I_ L_ ⟨rfl, rfl, rfl, rfl⟩
  rw [show (ax_rng (nI g) 6) = true from ax_rng_ok (h := 6) (by omega) (by decide)]
  refine x_if_eq_b C (tgt := 25) (dk ddX10_lay 5 rfl) (by decide) (fun h_ => absurd h_ (by decide)) (fun _ => ?_)
  refine x_iload_n C (dk ddX10_lay 6 rfl) rfl ?_
  refine x_iload C (dk ddX10_lay 7 rfl) rfl ?_
  refine x_iload C (dk ddX10_lay 8 rfl) rfl ?_
  refine x_callS C (As := [.int x, .int y, .int z]) (k_X10_isElement l D T o (d - 1) G I L x y z (by omega)) mlX10_156 ⟨by show d - 1 + 1 ≤ d; omega, by show 40 * (d - 1 + 1) ≤ 40 * d; omega⟩ ⟨Nat.le_refl _, Nat.le_refl _⟩ rfl (Nat.le_of_ble_eq_true rfl) (dk ddX10_lay 9 rfl) ?_
  rintro v_ G_ I_ L_ ⟨rfl, rfl, rfl, rfl⟩
  rw [show (ax_iw x.toInt64 (999 : Int32).toInt64 && ax_iw y.toInt64 (999 : Int32).toInt64 && ax_iw z.toInt64 (999 : Int32).toInt64) = true from he]
  refine x_if_ne_b C (tgt := 27) (dk ddX10_lay 10 rfl) (by decide) (fun _ => ?_) (fun h_ => absurd h_ (by decide))
  refine x_aload_n C (dk ddX10_lay 13 rfl) rfl ?_
  refine x_iload_n C (dk ddX10_lay 14 rfl) rfl ?_
  refine x_iload_n C (dk ddX10_lay 15 rfl) rfl ?_
  refine x_iload C (dk ddX10_lay 16 rfl) rfl ?_
  refine x_iload C (dk ddX10_lay 17 rfl) rfl ?_
  refine x_callV C (ci := 10) (As := [.int (nI g), .int x, .int y, .int z]) (k_X10_tell l D T o (d - 1) G I L a g (gn g) x y z hC (by omega) (by repeat (first | exact ax_u_at _ _ _ _ | exact (hgn g (by omega)).1 | rw [ax_u_ne (by omega)] | rw [ax_u_nj (by decide)] | rw [ax_sc_ne (by omega)] | unfold ax_ldI | unfold ax_woI | unfold ax_rxI | unfold ax_frI0 | unfold ax_frI1 | unfold ax_frI2 | rw [hI_ _ (by omega)] | rw [hN_ (by omega)])) (hgn g (by omega)).2 (by omega)) mlX10_121 rfl rfl (by have h_ := hC.1; omega) hC.fld.1 ⟨by show d - 1 + 1 ≤ d; omega, by show 40 * (d - 1 + 1) ≤ 40 * d; omega⟩ ⟨Nat.le_refl _, Nat.le_refl _⟩ rfl (Nat.le_of_ble_eq_true rfl) (dk ddX10_lay 18 rfl) ?_
  rintro v_ G_ I_ L_ ⟨rfl, rfl, rfl, rfl⟩
  refine x_aload_n C (dk ddX10_lay 19 rfl) rfl ?_
  refine x_getr C flX10_52 rfl (by have h_ := hC.1; omega) hC.fld.1 (show ax_R G a 7 = some (a + 482) from hC.fld.2.2 (7, 482) (by decide)) (dk ddX10_lay 20 rfl) ?_
  refine x_iload_n C (dk ddX10_lay 21 rfl) rfl ?_
  refine x_aald6_n C hC.shelfs.1 hC.shelfs.2.1 hC.shelfs.2.2 (by omega) (by decide) (hC.shelf (k := j) (by omega)).1 (dk ddX10_lay 22 rfl) ?_
  refine x_iload_n C (dk ddX10_lay 23 rfl) rfl ?_
  refine x_aload_n C (dk ddX10_lay 24 rfl) rfl ?_
  refine x_getr C flX10_89 rfl (by have h_ := hC.1; omega) hC.fld.1 (show ax_R G a 15 = some (a + 621) from hC.fld.2.2 (15, 621) (by decide)) (dk ddX10_lay 25 rfl) ?_
  refine x_callV C (ci := 6) (As := [.int (nI g), .ref (a + 621)]) (k_X6_takeElement l D T o (d - 1) G I (ax_tl (a + 621) (gn g) x y z L) (a + (631 + 2 * j)) (a + (632 + 2 * j)) (a + 621) 6 (nI g) (hC.shelf (k := j) (by omega)).2 ⟨hC.row.1, hC.row.2.1, hC.row.2.2⟩ (by decide) (by omega)) mlX10_347 rfl rfl (hC.shelf (k := j) (by omega)).2.1 (hC.shelf (k := j) (by omega)).2.2.1 ⟨by show d - 1 + 1 ≤ d; omega, by show 40 * (d - 1 + 1) ≤ 40 * d; omega⟩ ⟨Nat.le_refl _, Nat.le_refl _⟩ rfl (Nat.le_of_ble_eq_true rfl) (dk ddX10_lay 26 rfl) ?_
  rintro v_ G_ I_ L_ ⟨rfl, rfl, rfl, rfl⟩
  refine x_iconst C (v := nI 1) (dk ddX10_lay 27 rfl) (by decide) ?_
  exact x_iret C rfl ⟨rfl, rfl, rfl, rfl⟩ rfl rfl (dk ddX10_lay 28 rfl)
set_option maxRecDepth 20000 in
/-- hold, refused -/
theorem k_X10_hold_bad (l : Launch) (D : va_G) (T : Nat → ClassId) (o d : Nat) (G : ax_G) (I : ax_I) (L : ax_L) (a : Nat) (j i : Int32) (hC : ax_Cls G a) (hbad : ax_rng j 4 = false ∨ (¬ i = -1 ∧ ax_rng i 4 = false)) (hd : 3 ≤ d) : ax_Con l D T o yX10_hold cX10_hold 3 (some .int) d 0 0 [.ref a, .int j, .int i] G I L (fun zz G' I' L' => zz = some (.int ((-1))) ∧ G = G' ∧ I = I' ∧ L = L') := by
  refine ax_enter (by decide +kernel) (Nat.le_of_ble_eq_true rfl) ?_
  intro p_ e_ s_ m_ args_ below_ meth_ c_ C _
  refine x_lvs (lv' := [(0, .ref a), (1, .int j), (2, .int i)]) rfl ?_
  refine x_iload_n C (dk ddX10_hold 0 rfl) rfl ?_
  refine x_callS C (As := [.int j]) (k_X10_isShelf l D T o (d - 1) G I L j) mlX10_344 ⟨by show d - 1 + 1 ≤ d; omega, by show 40 * (d - 1 + 1) ≤ 40 * d; omega⟩ ⟨Nat.le_refl _, Nat.le_refl _⟩ rfl (Nat.le_of_ble_eq_true rfl) (dk ddX10_hold 1 rfl) ?_
  rintro v_ G_ I_ L_ ⟨rfl, rfl, rfl, rfl⟩
  refine x_if_eq_b C (tgt := 19) (dk ddX10_hold 2 rfl) (by decide) (fun h4 => ?_) (fun h4 => ?_)
  · refine x_iconst C (v := (-1)) (dk ddX10_hold 9 rfl) (by decide) ?_
    exact x_iret C rfl ⟨rfl, rfl, rfl, rfl⟩ rfl rfl (dk ddX10_hold 10 rfl)
  · refine x_iload_n C (dk ddX10_hold 3 rfl) rfl ?_
    refine x_iconst C (v := (-1)) (dk ddX10_hold 4 rfl) (by decide) ?_
    refine x_icmp_eq C (tgt := 21) (dk ddX10_hold 5 rfl) (by decide) (fun h9 => ?_) (fun h9 => ?_)
    · exfalso
      rcases hbad with hq_ | hq_ <;> first | exact absurd hq_ (by assumption) | (simp_all; done)
    · refine x_iload_n C (dk ddX10_hold 6 rfl) rfl ?_
      refine x_callS C (As := [.int i]) (k_X10_isSheet l D T o (d - 1) G I L i) mlX10_183 ⟨by show d - 1 + 1 ≤ d; omega, by show 40 * (d - 1 + 1) ≤ 40 * d; omega⟩ ⟨Nat.le_refl _, Nat.le_refl _⟩ rfl (Nat.le_of_ble_eq_true rfl) (dk ddX10_hold 7 rfl) ?_
      rintro v_ G_ I_ L_ ⟨rfl, rfl, rfl, rfl⟩
      refine x_if_ne_b C (tgt := 21) (dk ddX10_hold 8 rfl) (by decide) (fun h16 => ?_) (fun h16 => ?_)
      · exfalso
        rcases hbad with hq_ | hq_ <;> first | exact absurd hq_ (by assumption) | (simp_all; done)
      · refine x_iconst C (v := (-1)) (dk ddX10_hold 9 rfl) (by decide) ?_
        exact x_iret C rfl ⟨rfl, rfl, rfl, rfl⟩ rfl rfl (dk ddX10_hold 10 rfl)
set_option maxRecDepth 20000 in
/-- hold(j, -1) -/
theorem k_X10_hold_none (l : Launch) (D : va_G) (T : Nat → ClassId) (o d : Nat) (G : ax_G) (I : ax_I) (L : ax_L) (a j : Nat) (hC : ax_Cls G a) (hj : j < 4) (hd : 3 ≤ d) : ax_Con l D T o yX10_hold cX10_hold 3 (some .int) d 0 0 [.ref a, .int (nI j), .int (-1)] G I L (fun zz G' I' L' => zz = some (.int (nI 1)) ∧ G = G' ∧ (ax_u (ax_u (ax_u I (a + (631 + 2 * j)) 0 (-1)) (a + (631 + 2 * j)) 2 (-1)) (a + (631 + 2 * j)) 3 (nI 0)) = I' ∧ L = L') := by
  refine ax_enter (by decide +kernel) (Nat.le_of_ble_eq_true rfl) ?_
  intro p_ e_ s_ m_ args_ below_ meth_ c_ C _
  refine x_lvs (lv' := [(0, .ref a), (1, .int (nI j)), (2, .int (-1))]) rfl ?_
  refine x_iload_n C (dk ddX10_hold 0 rfl) rfl ?_
  refine x_callS C (As := [.int (nI j)]) (k_X10_isShelf l D T o (d - 1) G I L (nI j)) mlX10_344 ⟨by show d - 1 + 1 ≤ d; omega, by show 40 * (d - 1 + 1) ≤ 40 * d; omega⟩ ⟨Nat.le_refl _, Nat.le_refl _⟩ rfl (Nat.le_of_ble_eq_true rfl) (dk ddX10_hold 1 rfl) ?_
  rintro v_ G_ I_ L_ ⟨rfl, rfl, rfl, rfl⟩
  rw [show (ax_rng (nI j) 4) = true from ax_rng_ok (h := 4) (by omega) (by decide)]
  refine x_if_eq_b C (tgt := 19) (dk ddX10_hold 2 rfl) (by decide) (fun h_ => absurd h_ (by decide)) (fun _ => ?_)
  refine x_iload_n C (dk ddX10_hold 3 rfl) rfl ?_
  refine x_iconst C (v := (-1)) (dk ddX10_hold 4 rfl) (by decide) ?_
  refine x_icmp_eq C (tgt := 21) (dk ddX10_hold 5 rfl) (by decide) (fun _ => ?_) (fun h_ => absurd h_ (by decide))
  refine x_iload_n C (dk ddX10_hold 11 rfl) rfl ?_
  refine x_iconst C (v := (-1)) (dk ddX10_hold 12 rfl) (by decide) ?_
  refine x_icmp_ne C (tgt := 40) (dk ddX10_hold 13 rfl) (by decide) (fun h_ => absurd h_ (by decide)) (fun _ => ?_)
  refine x_aload_n C (dk ddX10_hold 14 rfl) rfl ?_
  refine x_getr C flX10_52 rfl (by have h_ := hC.1; omega) hC.fld.1 (show ax_R G a 7 = some (a + 482) from hC.fld.2.2 (7, 482) (by decide)) (dk ddX10_hold 15 rfl) ?_
  refine x_iload_n C (dk ddX10_hold 16 rfl) rfl ?_
  refine x_aald6_n C hC.shelfs.1 hC.shelfs.2.1 hC.shelfs.2.2 (by omega) (by decide) (hC.shelf (k := j) (by omega)).1 (dk ddX10_hold 17 rfl) ?_
  refine x_iconst C (v := (-1)) (dk ddX10_hold 18 rfl) (by decide) ?_
  refine x_iconst C (v := nI 0) (dk ddX10_hold 19 rfl) (by decide) ?_
  refine x_callV C (ci := 6) (As := [.int (-1), .int (nI 0)]) (k_X6_takeRow l D T o (d - 1) G I L (a + (631 + 2 * j)) (a + (632 + 2 * j)) (-1) (nI 0) (hC.shelf (k := j) (by omega)).2) mlX10_350 rfl rfl (hC.shelf (k := j) (by omega)).2.1 (hC.shelf (k := j) (by omega)).2.2.1 ⟨by show d - 1 + 1 ≤ d; omega, by show 40 * (d - 1 + 1) ≤ 40 * d; omega⟩ ⟨Nat.le_refl _, Nat.le_refl _⟩ rfl (Nat.le_of_ble_eq_true rfl) (dk ddX10_hold 20 rfl) ?_
  rintro v_ G_ I_ L_ ⟨rfl, rfl, rfl, rfl⟩
  refine x_goto C (tgt := 67) (dk ddX10_hold 21 rfl) (by decide) ?_
  refine x_iconst C (v := nI 1) (dk ddX10_hold 37 rfl) (by decide) ?_
  exact x_iret C rfl ⟨rfl, rfl, rfl, rfl⟩ rfl rfl (dk ddX10_hold 38 rfl)
set_option maxRecDepth 20000 in
/-- hold(j, i) -/
theorem k_X10_hold (l : Launch) (D : va_G) (T : Nat → ClassId) (o d : Nat) (G : ax_G) (I : ax_I) (L : ax_L) (a j i : Nat) (hC : ax_Cls G a) (hj : j < 4) (hi : i < 4) (hd : 3 ≤ d) : ax_Con l D T o yX10_hold cX10_hold 3 (some .int) d 0 0 [.ref a, .int (nI j), .int (nI i)] G I L (fun zz G' I' L' => zz = some (.int (nI 1)) ∧ G = G' ∧ (ax_u (ax_u (ax_u I (a + (631 + 2 * j)) 0 (-1)) (a + (631 + 2 * j)) 2 (I (a + (623 + 2 * i)) 0)) (a + (631 + 2 * j)) 3 (I (a + (623 + 2 * i)) 1)) = I' ∧ L = L') := by
  refine ax_enter (by decide +kernel) (Nat.le_of_ble_eq_true rfl) ?_
  intro p_ e_ s_ m_ args_ below_ meth_ c_ C _
  refine x_lvs (lv' := [(0, .ref a), (1, .int (nI j)), (2, .int (nI i))]) rfl ?_
  refine x_iload_n C (dk ddX10_hold 0 rfl) rfl ?_
  refine x_callS C (As := [.int (nI j)]) (k_X10_isShelf l D T o (d - 1) G I L (nI j)) mlX10_344 ⟨by show d - 1 + 1 ≤ d; omega, by show 40 * (d - 1 + 1) ≤ 40 * d; omega⟩ ⟨Nat.le_refl _, Nat.le_refl _⟩ rfl (Nat.le_of_ble_eq_true rfl) (dk ddX10_hold 1 rfl) ?_
  rintro v_ G_ I_ L_ ⟨rfl, rfl, rfl, rfl⟩
  rw [show (ax_rng (nI j) 4) = true from ax_rng_ok (h := 4) (by omega) (by decide)]
  refine x_if_eq_b C (tgt := 19) (dk ddX10_hold 2 rfl) (by decide) (fun h_ => absurd h_ (by decide)) (fun _ => ?_)
  refine x_iload_n C (dk ddX10_hold 3 rfl) rfl ?_
  refine x_iconst C (v := (-1)) (dk ddX10_hold 4 rfl) (by decide) ?_
  refine x_icmp_eq C (tgt := 21) (dk ddX10_hold 5 rfl) (by decide) (fun h9 => ?_) (fun h9 => ?_)
  · exfalso
    exact absurd h9 (ax_nn2 (by omega))
  · refine x_iload_n C (dk ddX10_hold 6 rfl) rfl ?_
    refine x_callS C (As := [.int (nI i)]) (k_X10_isSheet l D T o (d - 1) G I L (nI i)) mlX10_183 ⟨by show d - 1 + 1 ≤ d; omega, by show 40 * (d - 1 + 1) ≤ 40 * d; omega⟩ ⟨Nat.le_refl _, Nat.le_refl _⟩ rfl (Nat.le_of_ble_eq_true rfl) (dk ddX10_hold 7 rfl) ?_
    rintro v_ G_ I_ L_ ⟨rfl, rfl, rfl, rfl⟩
    rw [show (ax_rng (nI i) 4) = true from ax_rng_ok (h := 4) (by omega) (by decide)]
    refine x_if_ne_b C (tgt := 21) (dk ddX10_hold 8 rfl) (by decide) (fun _ => ?_) (fun h_ => absurd h_ (by decide))
    refine x_iload_n C (dk ddX10_hold 11 rfl) rfl ?_
    refine x_iconst C (v := (-1)) (dk ddX10_hold 12 rfl) (by decide) ?_
    refine x_icmp_ne C (tgt := 40) (dk ddX10_hold 13 rfl) (by decide) (fun h23 => ?_) (fun h23 => ?_)
    · refine x_aload_n C (dk ddX10_hold 22 rfl) rfl ?_
      refine x_getr C flX10_52 rfl (by have h_ := hC.1; omega) hC.fld.1 (show ax_R G a 7 = some (a + 482) from hC.fld.2.2 (7, 482) (by decide)) (dk ddX10_hold 23 rfl) ?_
      refine x_iload_n C (dk ddX10_hold 24 rfl) rfl ?_
      refine x_aald6_n C hC.shelfs.1 hC.shelfs.2.1 hC.shelfs.2.2 (by omega) (by decide) (hC.shelf (k := j) (by omega)).1 (dk ddX10_hold 25 rfl) ?_
      refine x_aload_n C (dk ddX10_hold 26 rfl) rfl ?_
      refine x_getr C flX10_46 rfl (by have h_ := hC.1; omega) hC.fld.1 (show ax_R G a 6 = some (a + 481) from hC.fld.2.2 (6, 481) (by decide)) (dk ddX10_hold 27 rfl) ?_
      refine x_iload_n C (dk ddX10_hold 28 rfl) rfl ?_
      refine x_aald5_n C hC.sheets.1 hC.sheets.2.1 hC.sheets.2.2 (by omega) (by decide) (hC.sheet (k := i) (by omega)).1 (dk ddX10_hold 29 rfl) ?_
      refine x_geti C flX10_341 rfl (hC.sheet (k := i) (by omega)).2.1 (hC.sheet (k := i) (by omega)).2.2.1 (dk ddX10_hold 30 rfl) ?_
      refine x_aload_n C (dk ddX10_hold 31 rfl) rfl ?_
      refine x_getr C flX10_46 rfl (by have h_ := hC.1; omega) hC.fld.1 (show ax_R G a 6 = some (a + 481) from hC.fld.2.2 (6, 481) (by decide)) (dk ddX10_hold 32 rfl) ?_
      refine x_iload_n C (dk ddX10_hold 33 rfl) rfl ?_
      refine x_aald5_n C hC.sheets.1 hC.sheets.2.1 hC.sheets.2.2 (by omega) (by decide) (hC.sheet (k := i) (by omega)).1 (dk ddX10_hold 34 rfl) ?_
      refine x_geti C flX10_353 rfl (hC.sheet (k := i) (by omega)).2.1 (hC.sheet (k := i) (by omega)).2.2.1 (dk ddX10_hold 35 rfl) ?_
      refine x_callV C (ci := 6) (As := [.int (I (a + (623 + 2 * i)) 0), .int (I (a + (623 + 2 * i)) 1)]) (k_X6_takeRow l D T o (d - 1) G I L (a + (631 + 2 * j)) (a + (632 + 2 * j)) (I (a + (623 + 2 * i)) 0) (I (a + (623 + 2 * i)) 1) (hC.shelf (k := j) (by omega)).2) mlX10_350 rfl rfl (hC.shelf (k := j) (by omega)).2.1 (hC.shelf (k := j) (by omega)).2.2.1 ⟨by show d - 1 + 1 ≤ d; omega, by show 40 * (d - 1 + 1) ≤ 40 * d; omega⟩ ⟨Nat.le_refl _, Nat.le_refl _⟩ rfl (Nat.le_of_ble_eq_true rfl) (dk ddX10_hold 36 rfl) ?_
      rintro v_ G_ I_ L_ ⟨rfl, rfl, rfl, rfl⟩
      refine x_iconst C (v := nI 1) (dk ddX10_hold 37 rfl) (by decide) ?_
      exact x_iret C rfl ⟨rfl, rfl, rfl, rfl⟩ rfl rfl (dk ddX10_hold 38 rfl)
    · exfalso
      first | exact h9 h23 | exact h23 h9 | omega | (rw [h9] at h23; cases h23)
set_option maxRecDepth 20000 in
/-- add, refused -/
theorem k_X10_add_bad (l : Launch) (D : va_G) (T : Nat → ClassId) (o d : Nat) (G : ax_G) (I : ax_I) (L : ax_L) (a : Nat) (j i : Int32) (hC : ax_Cls G a) (hbad : ax_rng j 4 = false ∨ ax_rng i 4 = false) (hd : 3 ≤ d) : ax_Con l D T o yX10_add cX10_add 6 (some .int) d 0 0 [.ref a, .int j, .int i] G I L (fun zz G' I' L' => zz = some (.int ((-1))) ∧ G = G' ∧ I = I' ∧ L = L') := by
  refine ax_enter (by decide +kernel) (Nat.le_of_ble_eq_true rfl) ?_
  intro p_ e_ s_ m_ args_ below_ meth_ c_ C _
  refine x_lvs (lv' := [(0, .ref a), (1, .int j), (2, .int i)]) rfl ?_
  refine x_iload_n C (dk ddX10_add 0 rfl) rfl ?_
  refine x_callS C (As := [.int j]) (k_X10_isShelf l D T o (d - 1) G I L j) mlX10_344 ⟨by show d - 1 + 1 ≤ d; omega, by show 40 * (d - 1 + 1) ≤ 40 * d; omega⟩ ⟨Nat.le_refl _, Nat.le_refl _⟩ rfl (Nat.le_of_ble_eq_true rfl) (dk ddX10_add 1 rfl) ?_
  rintro v_ G_ I_ L_ ⟨rfl, rfl, rfl, rfl⟩
  refine x_if_eq_b C (tgt := 14) (dk ddX10_add 2 rfl) (by decide) (fun h4 => ?_) (fun h4 => ?_)
  · refine x_iconst C (v := (-1)) (dk ddX10_add 6 rfl) (by decide) ?_
    exact x_iret C rfl ⟨rfl, rfl, rfl, rfl⟩ rfl rfl (dk ddX10_add 7 rfl)
  · refine x_iload_n C (dk ddX10_add 3 rfl) rfl ?_
    refine x_callS C (As := [.int i]) (k_X10_isShelf l D T o (d - 1) G I L i) mlX10_344 ⟨by show d - 1 + 1 ≤ d; omega, by show 40 * (d - 1 + 1) ≤ 40 * d; omega⟩ ⟨Nat.le_refl _, Nat.le_refl _⟩ rfl (Nat.le_of_ble_eq_true rfl) (dk ddX10_add 4 rfl) ?_
    rintro v_ G_ I_ L_ ⟨rfl, rfl, rfl, rfl⟩
    refine x_if_ne_b C (tgt := 16) (dk ddX10_add 5 rfl) (by decide) (fun h11 => ?_) (fun h11 => ?_)
    · exfalso
      rcases hbad with hq_ | hq_ <;> first | exact absurd hq_ (by assumption) | (simp_all; done)
    · refine x_iconst C (v := (-1)) (dk ddX10_add 6 rfl) (by decide) ?_
      exact x_iret C rfl ⟨rfl, rfl, rfl, rfl⟩ rfl rfl (dk ddX10_add 7 rfl)
/-- so many numbers of two shelves -/
def ax_ad3 (a : Nat) (j : Nat) (i : Nat) : Nat → ax_L → ax_L
  | 0, J => J
  | n + 1, J => ax_u (ax_ad3 a j i n J) (a + 621) n (((ax_ad3 a j i n J) (a + (632 + 2 * j)) n) + ((ax_ad3 a j i n J) (a + (632 + 2 * i)) n))
def ax_addI (I : ax_I) (L : ax_L) (a : Nat) (j : Nat) (i : Nat) : ax_I := if (decide (I (a + (631 + 2 * j)) 0 = -1) && decide (I (a + (631 + 2 * j)) 2 = -1)) = true then I else (if (decide (I (a + (631 + 2 * i)) 0 = -1) && decide (I (a + (631 + 2 * i)) 2 = -1)) = true then I else (if (I (a + (631 + 2 * j)) 0) = (-1) then I else (if (I (a + (631 + 2 * j)) 0) = (I (a + (631 + 2 * i)) 0) then ax_lgI I (ax_ad3 a j i 3 L) a (a + (631 + 2 * j)) else I)))
def ax_addL (I : ax_I) (L : ax_L) (a : Nat) (j : Nat) (i : Nat) : ax_L := if (decide (I (a + (631 + 2 * j)) 0 = -1) && decide (I (a + (631 + 2 * j)) 2 = -1)) = true then L else (if (decide (I (a + (631 + 2 * i)) 0 = -1) && decide (I (a + (631 + 2 * i)) 2 = -1)) = true then L else (if (I (a + (631 + 2 * j)) 0) = (-1) then L else (if (I (a + (631 + 2 * j)) 0) = (I (a + (631 + 2 * i)) 0) then ax_lgL (ax_ad3 a j i 3 L) a (a + (632 + 2 * j)) else L)))
def ax_addv (I : ax_I) (L : ax_L) (a : Nat) (j : Nat) (i : Nat) : Int32 := if (decide (I (a + (631 + 2 * j)) 0 = -1) && decide (I (a + (631 + 2 * j)) 2 = -1)) = true then (-11) else (if (decide (I (a + (631 + 2 * i)) 0 = -1) && decide (I (a + (631 + 2 * i)) 2 = -1)) = true then (-11) else (if (I (a + (631 + 2 * j)) 0) = (-1) then (-13) else (if (I (a + (631 + 2 * j)) 0) = (I (a + (631 + 2 * i)) 0) then ax_lgv (ax_ad3 a j i 3 L) a else (-13))))
set_option maxRecDepth 20000 in
/-- add(j, i) -/
theorem k_X10_add (l : Launch) (D : va_G) (T : Nat → ClassId) (o d : Nat) (G : ax_G) (I : ax_I) (L : ax_L) (a j i : Nat) (hC : ax_Cls G a) (hj : j < 4) (hi : i < 4) (hd : 4 ≤ d) : ax_Con l D T o yX10_add cX10_add 6 (some .int) d 0 0 [.ref a, .int (nI j), .int (nI i)] G I L (fun zz G' I' L' => zz = some (.int (ax_addv I L a j i)) ∧ G = G' ∧ (ax_addI I L a j i) = I' ∧ (ax_addL I L a j i) = L') := by
  refine ax_enter (by decide +kernel) (Nat.le_of_ble_eq_true rfl) ?_
  intro p_ e_ s_ m_ args_ below_ meth_ c_ C _
  refine x_lvs (lv' := [(0, .ref a), (1, .int (nI j)), (2, .int (nI i))]) rfl ?_
  refine x_iload_n C (dk ddX10_add 0 rfl) rfl ?_
  refine x_callS C (As := [.int (nI j)]) (k_X10_isShelf l D T o (d - 1) G I L (nI j)) mlX10_344 ⟨by show d - 1 + 1 ≤ d; omega, by show 40 * (d - 1 + 1) ≤ 40 * d; omega⟩ ⟨Nat.le_refl _, Nat.le_refl _⟩ rfl (Nat.le_of_ble_eq_true rfl) (dk ddX10_add 1 rfl) ?_
  rintro v_ G_ I_ L_ ⟨rfl, rfl, rfl, rfl⟩
  rw [show (ax_rng (nI j) 4) = true from ax_rng_ok (h := 4) (by omega) (by decide)]
  refine x_if_eq_b C (tgt := 14) (dk ddX10_add 2 rfl) (by decide) (fun h_ => absurd h_ (by decide)) (fun _ => ?_)
  refine x_iload_n C (dk ddX10_add 3 rfl) rfl ?_
  refine x_callS C (As := [.int (nI i)]) (k_X10_isShelf l D T o (d - 1) G I L (nI i)) mlX10_344 ⟨by show d - 1 + 1 ≤ d; omega, by show 40 * (d - 1 + 1) ≤ 40 * d; omega⟩ ⟨Nat.le_refl _, Nat.le_refl _⟩ rfl (Nat.le_of_ble_eq_true rfl) (dk ddX10_add 4 rfl) ?_
  rintro v_ G_ I_ L_ ⟨rfl, rfl, rfl, rfl⟩
  rw [show (ax_rng (nI i) 4) = true from ax_rng_ok (h := 4) (by omega) (by decide)]
  refine x_if_ne_b C (tgt := 16) (dk ddX10_add 5 rfl) (by decide) (fun _ => ?_) (fun h_ => absurd h_ (by decide))
  refine x_aload_n C (dk ddX10_add 8 rfl) rfl ?_
  refine x_getr C flX10_52 rfl (by have h_ := hC.1; omega) hC.fld.1 (show ax_R G a 7 = some (a + 482) from hC.fld.2.2 (7, 482) (by decide)) (dk ddX10_add 9 rfl) ?_
  refine x_iload_n C (dk ddX10_add 10 rfl) rfl ?_
  refine x_aald6_n C hC.shelfs.1 hC.shelfs.2.1 hC.shelfs.2.2 (by omega) (by decide) (hC.shelf (k := j) (by omega)).1 (dk ddX10_add 11 rfl) ?_
  refine x_astore_n C (lv' := [(3, .ref (a + (631 + 2 * j))), (0, .ref a), (1, .int (nI j)), (2, .int (nI i))]) (dk ddX10_add 12 rfl) (by decide) rfl ?_
  refine x_aload_n C (dk ddX10_add 13 rfl) rfl ?_
  refine x_getr C flX10_52 rfl (by have h_ := hC.1; omega) hC.fld.1 (show ax_R G a 7 = some (a + 482) from hC.fld.2.2 (7, 482) (by decide)) (dk ddX10_add 14 rfl) ?_
  refine x_iload_n C (dk ddX10_add 15 rfl) rfl ?_
  refine x_aald6_n C hC.shelfs.1 hC.shelfs.2.1 hC.shelfs.2.2 (by omega) (by decide) (hC.shelf (k := i) (by omega)).1 (dk ddX10_add 16 rfl) ?_
  refine x_astore C (lv' := [(4, .ref (a + (631 + 2 * i))), (3, .ref (a + (631 + 2 * j))), (0, .ref a), (1, .int (nI j)), (2, .int (nI i))]) (dk ddX10_add 17 rfl) (by decide) rfl ?_
  refine x_aload_n C (dk ddX10_add 18 rfl) rfl ?_
  refine x_callV C (ci := 6) (As := []) (k_X6_isEmpty l D T o (d - 1) G I L (a + (631 + 2 * j)) (a + (632 + 2 * j)) (hC.shelf (k := j) (by omega)).2) mlX10_356 rfl rfl (hC.shelf (k := j) (by omega)).2.1 (hC.shelf (k := j) (by omega)).2.2.1 ⟨by show d - 1 + 1 ≤ d; omega, by show 40 * (d - 1 + 1) ≤ 40 * d; omega⟩ ⟨Nat.le_refl _, Nat.le_refl _⟩ rfl (Nat.le_of_ble_eq_true rfl) (dk ddX10_add 19 rfl) ?_
  rintro v_ G_ I_ L_ ⟨rfl, rfl, rfl, rfl⟩
  refine x_if_ne_b C (tgt := 46) (dk ddX10_add 20 rfl) (by decide) (fun h35 => ?_) (fun h35 => ?_)
  · refine x_bipush C (v := (-11)) (dk ddX10_add 24 rfl) (by decide) ?_
    exact x_iret C rfl ⟨(by unfold ax_addv; rw [if_pos h35] <;> rfl), rfl, (by unfold ax_addI; rw [if_pos h35] <;> rfl), (by unfold ax_addL; rw [if_pos h35] <;> rfl)⟩ rfl rfl (dk ddX10_add 25 rfl)
  · refine x_aload C (dk ddX10_add 21 rfl) rfl ?_
    refine x_callV C (ci := 6) (As := []) (k_X6_isEmpty l D T o (d - 1) G I L (a + (631 + 2 * i)) (a + (632 + 2 * i)) (hC.shelf (k := i) (by omega)).2) mlX10_356 rfl rfl (hC.shelf (k := i) (by omega)).2.1 (hC.shelf (k := i) (by omega)).2.2.1 ⟨by show d - 1 + 1 ≤ d; omega, by show 40 * (d - 1 + 1) ≤ 40 * d; omega⟩ ⟨Nat.le_refl _, Nat.le_refl _⟩ rfl (Nat.le_of_ble_eq_true rfl) (dk ddX10_add 22 rfl) ?_
    rintro v_ G_ I_ L_ ⟨rfl, rfl, rfl, rfl⟩
    refine x_if_eq_b C (tgt := 49) (dk ddX10_add 23 rfl) (by decide) (fun h43 => ?_) (fun h43 => ?_)
    · refine x_aload_n C (dk ddX10_add 26 rfl) rfl ?_
      refine x_geti C flX10_359 rfl (hC.shelf (k := j) (by omega)).2.1 (hC.shelf (k := j) (by omega)).2.2.1 (dk ddX10_add 27 rfl) ?_
      refine x_iconst C (v := (-1)) (dk ddX10_add 28 rfl) (by decide) ?_
      refine x_icmp_eq C (tgt := 69) (dk ddX10_add 29 rfl) (by decide) (fun h54 => ?_) (fun h54 => ?_)
      · refine x_bipush C (v := (-13)) (dk ddX10_add 35 rfl) (by decide) ?_
        exact x_iret C rfl ⟨(by unfold ax_addv; rw [if_neg (Bool.eq_false_iff.mp h35), if_neg (Bool.eq_false_iff.mp h43), if_pos h54] <;> rfl), rfl, (by unfold ax_addI; rw [if_neg (Bool.eq_false_iff.mp h35), if_neg (Bool.eq_false_iff.mp h43), if_pos h54] <;> rfl), (by unfold ax_addL; rw [if_neg (Bool.eq_false_iff.mp h35), if_neg (Bool.eq_false_iff.mp h43), if_pos h54] <;> rfl)⟩ rfl rfl (dk ddX10_add 36 rfl)
      · refine x_aload_n C (dk ddX10_add 30 rfl) rfl ?_
        refine x_geti C flX10_359 rfl (hC.shelf (k := j) (by omega)).2.1 (hC.shelf (k := j) (by omega)).2.2.1 (dk ddX10_add 31 rfl) ?_
        refine x_aload C (dk ddX10_add 32 rfl) rfl ?_
        refine x_geti C flX10_359 rfl (hC.shelf (k := i) (by omega)).2.1 (hC.shelf (k := i) (by omega)).2.2.1 (dk ddX10_add 33 rfl) ?_
        refine x_icmp_eq C (tgt := 72) (dk ddX10_add 34 rfl) (by decide) (fun h66 => ?_) (fun h66 => ?_)
        · refine x_iconst C (v := nI 0) (dk ddX10_add 37 rfl) (by decide) ?_
          refine x_istore C (lv' := [(5, .int (nI 0)), (4, .ref (a + (631 + 2 * i))), (3, .ref (a + (631 + 2 * j))), (0, .ref a), (1, .int (nI j)), (2, .int (nI i))]) (dk ddX10_add 38 rfl) (by decide) rfl ?_
          have hl37 : ∀ (n_37 k : Nat), k + n_37 = 3 → ax_XM p_ l e_ s_ m_ args_ below_ meth_ c_ 6 D T o d 0 0 G (fun zz G' I' L' => zz = some (.int (ax_addv I L a j i)) ∧ G = G' ∧ (ax_addI I L a j i) = I' ∧ (ax_addL I L a j i) = L') G I (ax_ad3 a j i k L) 75 [(5, .int (nI k)), (4, .ref (a + (631 + 2 * i))), (3, .ref (a + (631 + 2 * j))), (0, .ref a), (1, .int (nI j)), (2, .int (nI i))] [] := by
            intro n_37
            induction n_37 with
            | zero =>
              intro k hk_37
              rw [show k = 3 by omega]
              refine x_iload C (dk ddX10_add 39 rfl) rfl ?_
              refine x_iconst C (v := nI 3) (dk ddX10_add 40 rfl) (by decide) ?_
              refine x_icmp_ge_n C (tgt := 110) (dk ddX10_add 41 rfl) (by decide) (by decide) (by decide) (fun _ => ?_) (fun h_ => absurd h_ (by decide))
              refine x_aload_n C (dk ddX10_add 57 rfl) rfl ?_
              refine x_aload_n C (dk ddX10_add 58 rfl) rfl ?_
              refine x_callV C (ci := 10) (As := [.ref (a + (631 + 2 * j))]) (k_X10_layAgain l D T o (d - 1) G I (ax_ad3 a j i 3 L) a (a + (631 + 2 * j)) (a + (632 + 2 * j)) hC (hC.shelf (k := j) (by omega)).2 (by omega)) mlX10_363 rfl rfl (by have h_ := hC.1; omega) hC.fld.1 ⟨by show d - 1 + 1 ≤ d; omega, by show 40 * (d - 1 + 1) ≤ 40 * d; omega⟩ ⟨Nat.le_refl _, Nat.le_refl _⟩ rfl (Nat.le_of_ble_eq_true rfl) (dk ddX10_add 59 rfl) ?_
              rintro v_ G_ I_ L_ ⟨rfl, rfl, rfl, rfl⟩
              exact x_iret C rfl ⟨(by unfold ax_addv; rw [if_neg (Bool.eq_false_iff.mp h35), if_neg (Bool.eq_false_iff.mp h43), if_neg h54, if_pos h66] <;> rfl), rfl, (by unfold ax_addI; rw [if_neg (Bool.eq_false_iff.mp h35), if_neg (Bool.eq_false_iff.mp h43), if_neg h54, if_pos h66] <;> rfl), (by unfold ax_addL; rw [if_neg (Bool.eq_false_iff.mp h35), if_neg (Bool.eq_false_iff.mp h43), if_neg h54, if_pos h66] <;> rfl)⟩ rfl rfl (dk ddX10_add 60 rfl)
            | succ n_37 ih_37 =>
              intro k hk_37
              refine x_iload C (dk ddX10_add 39 rfl) rfl ?_
              refine x_iconst C (v := nI 3) (dk ddX10_add 40 rfl) (by decide) ?_
              refine x_icmp_ge_n C (tgt := 110) (dk ddX10_add 41 rfl) (by decide) (by omega) (by decide) (fun h78 => ?_) (fun h78 => ?_)
              · exfalso
                omega
              · refine x_aload_n C (dk ddX10_add 42 rfl) rfl ?_
                refine x_getr C flX10_89 rfl (by have h_ := hC.1; omega) hC.fld.1 (show ax_R G a 15 = some (a + 621) from hC.fld.2.2 (15, 621) (by decide)) (dk ddX10_add 43 rfl) ?_
                refine x_iload C (dk ddX10_add 44 rfl) rfl ?_
                refine x_aload_n C (dk ddX10_add 45 rfl) rfl ?_
                refine x_getr C flX10_362 rfl (hC.shelf (k := j) (by omega)).2.1 (hC.shelf (k := j) (by omega)).2.2.1 (hC.shelf (k := j) (by omega)).2.2.2.1 (dk ddX10_add 46 rfl) ?_
                refine x_iload C (dk ddX10_add 47 rfl) rfl ?_
                refine x_lald_n C (hC.shelf (k := j) (by omega)).2.2.2.2.1 (hC.shelf (k := j) (by omega)).2.2.2.2.2.1 (hC.shelf (k := j) (by omega)).2.2.2.2.2.2 (by omega) (by decide) (dk ddX10_add 48 rfl) ?_
                refine x_aload C (dk ddX10_add 49 rfl) rfl ?_
                refine x_getr C flX10_362 rfl (hC.shelf (k := i) (by omega)).2.1 (hC.shelf (k := i) (by omega)).2.2.1 (hC.shelf (k := i) (by omega)).2.2.2.1 (dk ddX10_add 50 rfl) ?_
                refine x_iload C (dk ddX10_add 51 rfl) rfl ?_
                refine x_lald_n C (hC.shelf (k := i) (by omega)).2.2.2.2.1 (hC.shelf (k := i) (by omega)).2.2.2.2.2.1 (hC.shelf (k := i) (by omega)).2.2.2.2.2.2 (by omega) (by decide) (dk ddX10_add 52 rfl) ?_
                refine x_ladd C (dk ddX10_add 53 rfl) ?_
                refine x_last_n C hC.row.1 hC.row.2.1 hC.row.2.2 (by omega) (by decide) (dk ddX10_add 54 rfl) ?_
                refine x_iinc C (v := nI (k + 1)) (lv' := [(5, .int (nI (k + 1))), (4, .ref (a + (631 + 2 * i))), (3, .ref (a + (631 + 2 * j))), (0, .ref a), (1, .int (nI j)), (2, .int (nI i))]) (dk ddX10_add 55 rfl) rfl (nI_add k 1) (by decide) rfl ?_
                refine x_goto C (tgt := 75) (dk ddX10_add 56 rfl) (by decide) ?_
                have e_ : ax_ad3 a j i (k + 1) L = ax_u (ax_ad3 a j i k L) (a + 621) k (((ax_ad3 a j i k L) (a + (632 + 2 * j)) k) + ((ax_ad3 a j i k L) (a + (632 + 2 * i)) k)) := rfl
                refine x_sub [0, 1, 2, 3, 4, 5] (lv' := [(5, .int (nI (k + 1))), (4, .ref (a + (631 + 2 * i))), (3, .ref (a + (631 + 2 * j))), (0, .ref a), (1, .int (nI j)), (2, .int (nI i))]) rfl ?_
                have h_ := ih_37 (k + 1) (by omega)
                rw [e_] at h_
                exact h_
          refine x_sub [0, 1, 2, 3, 4, 5] (lv' := [(5, .int (nI 0)), (4, .ref (a + (631 + 2 * i))), (3, .ref (a + (631 + 2 * j))), (0, .ref a), (1, .int (nI j)), (2, .int (nI i))]) rfl ?_
          exact hl37 3 0 (by omega)
        · refine x_bipush C (v := (-13)) (dk ddX10_add 35 rfl) (by decide) ?_
          exact x_iret C rfl ⟨(by unfold ax_addv; rw [if_neg (Bool.eq_false_iff.mp h35), if_neg (Bool.eq_false_iff.mp h43), if_neg h54, if_neg h66] <;> rfl), rfl, (by unfold ax_addI; rw [if_neg (Bool.eq_false_iff.mp h35), if_neg (Bool.eq_false_iff.mp h43), if_neg h54, if_neg h66] <;> rfl), (by unfold ax_addL; rw [if_neg (Bool.eq_false_iff.mp h35), if_neg (Bool.eq_false_iff.mp h43), if_neg h54, if_neg h66] <;> rfl)⟩ rfl rfl (dk ddX10_add 36 rfl)
    · refine x_bipush C (v := (-11)) (dk ddX10_add 24 rfl) (by decide) ?_
      exact x_iret C rfl ⟨(by unfold ax_addv; rw [if_neg (Bool.eq_false_iff.mp h35), if_pos h43] <;> rfl), rfl, (by unfold ax_addI; rw [if_neg (Bool.eq_false_iff.mp h35), if_pos h43] <;> rfl), (by unfold ax_addL; rw [if_neg (Bool.eq_false_iff.mp h35), if_pos h43] <;> rfl)⟩ rfl rfl (dk ddX10_add 25 rfl)
set_option maxRecDepth 20000 in
/-- rest, refused -/
theorem k_X10_rest_bad (l : Launch) (D : va_G) (T : Nat → ClassId) (o d : Nat) (G : ax_G) (I : ax_I) (L : ax_L) (a : Nat) (j : Int32) (hC : ax_Cls G a) (hbad : ax_rng j 4 = false) (hd : 3 ≤ d) : ax_Con l D T o yX10_rest cX10_rest 4 (some .int) d 0 0 [.ref a, .int j] G I L (fun zz G' I' L' => zz = some (.int ((-1))) ∧ G = G' ∧ I = I' ∧ L = L') := by
  refine ax_enter (by decide +kernel) (Nat.le_of_ble_eq_true rfl) ?_
  intro p_ e_ s_ m_ args_ below_ meth_ c_ C _
  refine x_lvs (lv' := [(0, .ref a), (1, .int j)]) rfl ?_
  refine x_iload_n C (dk ddX10_rest 0 rfl) rfl ?_
  refine x_callS C (As := [.int j]) (k_X10_isShelf l D T o (d - 1) G I L j) mlX10_344 ⟨by show d - 1 + 1 ≤ d; omega, by show 40 * (d - 1 + 1) ≤ 40 * d; omega⟩ ⟨Nat.le_refl _, Nat.le_refl _⟩ rfl (Nat.le_of_ble_eq_true rfl) (dk ddX10_rest 1 rfl) ?_
  rintro v_ G_ I_ L_ ⟨rfl, rfl, rfl, rfl⟩
  refine x_if_ne_b C (tgt := 9) (dk ddX10_rest 2 rfl) (by decide) (fun h4 => ?_) (fun h4 => ?_)
  · exfalso
    first | exact absurd hbad (by assumption) | (simp_all; done)
  · refine x_iconst C (v := (-1)) (dk ddX10_rest 3 rfl) (by decide) ?_
    exact x_iret C rfl ⟨rfl, rfl, rfl, rfl⟩ rfl rfl (dk ddX10_rest 4 rfl)
set_option maxRecDepth 20000 in
/-- rest of no element -/
theorem k_X10_rest_no (l : Launch) (D : va_G) (T : Nat → ClassId) (o d : Nat) (G : ax_G) (I : ax_I) (L : ax_L) (a j : Nat) (hC : ax_Cls G a) (hj : j < 4) (hbad : (decide (I (a + (631 + 2 * j)) 0 = -1) && decide (I (a + (631 + 2 * j)) 2 = -1)) = true ∨ ax_rng (I (a + (631 + 2 * j)) 0) 6 = false) (hd : 4 ≤ d) : ax_Con l D T o yX10_rest cX10_rest 4 (some .int) d 0 0 [.ref a, .int (nI j)] G I L (fun zz G' I' L' => zz = some (.int (if (decide (I (a + (631 + 2 * j)) 0 = -1) && decide (I (a + (631 + 2 * j)) 2 = -1)) = true then (-11) else (-13))) ∧ G = G' ∧ I = I' ∧ L = L') := by
  refine ax_enter (by decide +kernel) (Nat.le_of_ble_eq_true rfl) ?_
  intro p_ e_ s_ m_ args_ below_ meth_ c_ C _
  refine x_lvs (lv' := [(0, .ref a), (1, .int (nI j))]) rfl ?_
  refine x_iload_n C (dk ddX10_rest 0 rfl) rfl ?_
  refine x_callS C (As := [.int (nI j)]) (k_X10_isShelf l D T o (d - 1) G I L (nI j)) mlX10_344 ⟨by show d - 1 + 1 ≤ d; omega, by show 40 * (d - 1 + 1) ≤ 40 * d; omega⟩ ⟨Nat.le_refl _, Nat.le_refl _⟩ rfl (Nat.le_of_ble_eq_true rfl) (dk ddX10_rest 1 rfl) ?_
  rintro v_ G_ I_ L_ ⟨rfl, rfl, rfl, rfl⟩
  rw [show (ax_rng (nI j) 4) = true from ax_rng_ok (h := 4) (by omega) (by decide)]
  refine x_if_ne_b C (tgt := 9) (dk ddX10_rest 2 rfl) (by decide) (fun _ => ?_) (fun h_ => absurd h_ (by decide))
  refine x_aload_n C (dk ddX10_rest 5 rfl) rfl ?_
  refine x_getr C flX10_52 rfl (by have h_ := hC.1; omega) hC.fld.1 (show ax_R G a 7 = some (a + 482) from hC.fld.2.2 (7, 482) (by decide)) (dk ddX10_rest 6 rfl) ?_
  refine x_iload_n C (dk ddX10_rest 7 rfl) rfl ?_
  refine x_aald6_n C hC.shelfs.1 hC.shelfs.2.1 hC.shelfs.2.2 (by omega) (by decide) (hC.shelf (k := j) (by omega)).1 (dk ddX10_rest 8 rfl) ?_
  refine x_astore_n C (lv' := [(2, .ref (a + (631 + 2 * j))), (0, .ref a), (1, .int (nI j))]) (dk ddX10_rest 9 rfl) (by decide) rfl ?_
  refine x_aload_n C (dk ddX10_rest 10 rfl) rfl ?_
  refine x_callV C (ci := 6) (As := []) (k_X6_isEmpty l D T o (d - 1) G I L (a + (631 + 2 * j)) (a + (632 + 2 * j)) (hC.shelf (k := j) (by omega)).2) mlX10_356 rfl rfl (hC.shelf (k := j) (by omega)).2.1 (hC.shelf (k := j) (by omega)).2.2.1 ⟨by show d - 1 + 1 ≤ d; omega, by show 40 * (d - 1 + 1) ≤ 40 * d; omega⟩ ⟨Nat.le_refl _, Nat.le_refl _⟩ rfl (Nat.le_of_ble_eq_true rfl) (dk ddX10_rest 11 rfl) ?_
  rintro v_ G_ I_ L_ ⟨rfl, rfl, rfl, rfl⟩
  refine x_if_eq_b C (tgt := 26) (dk ddX10_rest 12 rfl) (by decide) (fun h20 => ?_) (fun h20 => ?_)
  · refine x_aload_n C (dk ddX10_rest 15 rfl) rfl ?_
    refine x_geti C flX10_359 rfl (hC.shelf (k := j) (by omega)).2.1 (hC.shelf (k := j) (by omega)).2.2.1 (dk ddX10_rest 16 rfl) ?_
    refine x_callS C (As := [.int (I (a + (631 + 2 * j)) 0)]) (k_X10_isGroup l D T o (d - 1) G I L (I (a + (631 + 2 * j)) 0)) mlX10_98 ⟨by show d - 1 + 1 ≤ d; omega, by show 40 * (d - 1 + 1) ≤ 40 * d; omega⟩ ⟨Nat.le_refl _, Nat.le_refl _⟩ rfl (Nat.le_of_ble_eq_true rfl) (dk ddX10_rest 17 rfl) ?_
    rintro v_ G_ I_ L_ ⟨rfl, rfl, rfl, rfl⟩
    refine x_if_ne_b C (tgt := 39) (dk ddX10_rest 18 rfl) (by decide) (fun h33 => ?_) (fun h33 => ?_)
    · exfalso
      rcases hbad with hq_ | hq_ <;> first | exact absurd hq_ (by assumption) | (simp_all; done)
    · refine x_bipush C (v := (-13)) (dk ddX10_rest 19 rfl) (by decide) ?_
      exact x_iret C rfl ⟨(by rw [if_neg (Bool.eq_false_iff.mp h20)] <;> rfl), rfl, rfl, rfl⟩ rfl rfl (dk ddX10_rest 20 rfl)
  · refine x_bipush C (v := (-11)) (dk ddX10_rest 13 rfl) (by decide) ?_
    exact x_iret C rfl ⟨(by rw [if_pos h20] <;> rfl), rfl, rfl, rfl⟩ rfl rfl (dk ddX10_rest 14 rfl)
/-- so many numbers of a shelf -/
def ax_re3 (a : Nat) (j : Nat) : Nat → ax_L → ax_L
  | 0, J => J
  | n + 1, J => ax_u (ax_re3 a j n J) (a + 621) n ((ax_re3 a j n J) (a + (632 + 2 * j)) n)
def ax_resI (I : ax_I) (L : ax_L) (a : Nat) (j : Nat) (g : Nat) (gn : Nat → Nat) (gc : Nat → Nat) : ax_I := ax_lgI (ax_u I (a + 597) 2 (nI (gn g))) (ax_rfo (a + 597) (a + 621) (gn g) 0 ((gn g) - 0) (ax_nth I (a + 1) (a + 597) g (gn g) (gc g) (ax_re3 a j 3 L))) a (a + (631 + 2 * j))
def ax_resL (I : ax_I) (L : ax_L) (a : Nat) (j : Nat) (g : Nat) (gn : Nat → Nat) (gc : Nat → Nat) : ax_L := ax_lgL (ax_rfo (a + 597) (a + 621) (gn g) 0 ((gn g) - 0) (ax_nth I (a + 1) (a + 597) g (gn g) (gc g) (ax_re3 a j 3 L))) a (a + (632 + 2 * j))
def ax_resv (I : ax_I) (L : ax_L) (a : Nat) (j : Nat) (g : Nat) (gn : Nat → Nat) (gc : Nat → Nat) : Int32 := ax_lgv (ax_rfo (a + 597) (a + 621) (gn g) 0 ((gn g) - 0) (ax_nth I (a + 1) (a + 597) g (gn g) (gc g) (ax_re3 a j 3 L))) a
set_option maxRecDepth 20000 in
/-- rest(j) -/
theorem k_X10_rest (l : Launch) (D : va_G) (T : Nat → ClassId) (o d : Nat) (G : ax_G) (I : ax_I) (L : ax_L) (a j g : Nat) (gn gc : Nat → Nat) (hC : ax_Cls G a) (hgn : ∀ g, g < 6 → I (a + 1 + 1) g = nI (gn g) ∧ gn g ≤ 3) (hgc : ∀ g, g < 6 → I (a + 1 + 2) g = nI (gc g) ∧ gc g ≤ 4) (hj : j < 4) (hr : I (a + (631 + 2 * j)) 0 = nI g) (hg : g < 6) (hd : 4 ≤ d) : ax_Con l D T o yX10_rest cX10_rest 4 (some .int) d 0 0 [.ref a, .int (nI j)] G I L (fun zz G' I' L' => zz = some (.int (ax_resv I L a j g gn gc)) ∧ G = G' ∧ (ax_resI I L a j g gn gc) = I' ∧ (ax_resL I L a j g gn gc) = L') := by
  refine ax_enter (by decide +kernel) (Nat.le_of_ble_eq_true rfl) ?_
  intro p_ e_ s_ m_ args_ below_ meth_ c_ C _
  refine x_lvs (lv' := [(0, .ref a), (1, .int (nI j))]) rfl ?_
  have hb_ := (hgn g hg).2
  have he_ : (decide (I (a + (631 + 2 * j)) 0 = -1) && decide (I (a + (631 + 2 * j)) 2 = -1)) = false := by rw [hr, decide_eq_false (ax_nn2 (u := g) (by omega)), Bool.false_and]
  refine x_iload_n C (dk ddX10_rest 0 rfl) rfl ?_
  refine x_callS C (As := [.int (nI j)]) (k_X10_isShelf l D T o (d - 1) G I L (nI j)) mlX10_344 ⟨by show d - 1 + 1 ≤ d; omega, by show 40 * (d - 1 + 1) ≤ 40 * d; omega⟩ ⟨Nat.le_refl _, Nat.le_refl _⟩ rfl (Nat.le_of_ble_eq_true rfl) (dk ddX10_rest 1 rfl) ?_
  rintro v_ G_ I_ L_ ⟨rfl, rfl, rfl, rfl⟩
  rw [show (ax_rng (nI j) 4) = true from ax_rng_ok (h := 4) (by omega) (by decide)]
  refine x_if_ne_b C (tgt := 9) (dk ddX10_rest 2 rfl) (by decide) (fun _ => ?_) (fun h_ => absurd h_ (by decide))
  refine x_aload_n C (dk ddX10_rest 5 rfl) rfl ?_
  refine x_getr C flX10_52 rfl (by have h_ := hC.1; omega) hC.fld.1 (show ax_R G a 7 = some (a + 482) from hC.fld.2.2 (7, 482) (by decide)) (dk ddX10_rest 6 rfl) ?_
  refine x_iload_n C (dk ddX10_rest 7 rfl) rfl ?_
  refine x_aald6_n C hC.shelfs.1 hC.shelfs.2.1 hC.shelfs.2.2 (by omega) (by decide) (hC.shelf (k := j) (by omega)).1 (dk ddX10_rest 8 rfl) ?_
  refine x_astore_n C (lv' := [(2, .ref (a + (631 + 2 * j))), (0, .ref a), (1, .int (nI j))]) (dk ddX10_rest 9 rfl) (by decide) rfl ?_
  refine x_aload_n C (dk ddX10_rest 10 rfl) rfl ?_
  refine x_callV C (ci := 6) (As := []) (k_X6_isEmpty l D T o (d - 1) G I L (a + (631 + 2 * j)) (a + (632 + 2 * j)) (hC.shelf (k := j) (by omega)).2) mlX10_356 rfl rfl (hC.shelf (k := j) (by omega)).2.1 (hC.shelf (k := j) (by omega)).2.2.1 ⟨by show d - 1 + 1 ≤ d; omega, by show 40 * (d - 1 + 1) ≤ 40 * d; omega⟩ ⟨Nat.le_refl _, Nat.le_refl _⟩ rfl (Nat.le_of_ble_eq_true rfl) (dk ddX10_rest 11 rfl) ?_
  rintro v_ G_ I_ L_ ⟨rfl, rfl, rfl, rfl⟩
  rw [show (decide (I (a + (631 + 2 * j)) 0 = -1) && decide (I (a + (631 + 2 * j)) 2 = -1)) = false from he_]
  refine x_if_eq_b C (tgt := 26) (dk ddX10_rest 12 rfl) (by decide) (fun _ => ?_) (fun h_ => absurd h_ (by decide))
  refine x_aload_n C (dk ddX10_rest 15 rfl) rfl ?_
  refine x_geti C flX10_359 rfl (hC.shelf (k := j) (by omega)).2.1 (hC.shelf (k := j) (by omega)).2.2.1 (dk ddX10_rest 16 rfl) ?_
  rw [show (I (a + (631 + 2 * j)) 0) = nI g from (by repeat (first | exact ax_u_at _ _ _ _ | exact hr | rw [ax_u_ne (by omega)] | rw [ax_u_nj (by decide)] | rw [ax_sc_ne (by omega)] | unfold ax_ldI | unfold ax_woI | unfold ax_rxI | unfold ax_frI0 | unfold ax_frI1 | unfold ax_frI2 | rw [hI_ _ (by omega)] | rw [hN_ (by omega)]))]
  refine x_callS C (As := [.int (nI g)]) (k_X10_isGroup l D T o (d - 1) G I L (nI g)) mlX10_98 ⟨by show d - 1 + 1 ≤ d; omega, by show 40 * (d - 1 + 1) ≤ 40 * d; omega⟩ ⟨Nat.le_refl _, Nat.le_refl _⟩ rfl (Nat.le_of_ble_eq_true rfl) (dk ddX10_rest 17 rfl) ?_
  rintro v_ G_ I_ L_ ⟨rfl, rfl, rfl, rfl⟩
  rw [show (ax_rng (nI g) 6) = true from ax_rng_ok (h := 6) (by omega) (by decide)]
  refine x_if_ne_b C (tgt := 39) (dk ddX10_rest 18 rfl) (by decide) (fun _ => ?_) (fun h_ => absurd h_ (by decide))
  refine x_iconst C (v := nI 0) (dk ddX10_rest 21 rfl) (by decide) ?_
  refine x_istore_n C (lv' := [(3, .int (nI 0)), (2, .ref (a + (631 + 2 * j))), (0, .ref a), (1, .int (nI j))]) (dk ddX10_rest 22 rfl) (by decide) rfl ?_
  have hl38 : ∀ (n_38 k : Nat), k + n_38 = 3 → ax_XM p_ l e_ s_ m_ args_ below_ meth_ c_ 4 D T o d 0 0 G (fun zz G' I' L' => zz = some (.int (ax_resv I L a j g gn gc)) ∧ G = G' ∧ (ax_resI I L a j g gn gc) = I' ∧ (ax_resL I L a j g gn gc) = L') G I (ax_re3 a j k L) 41 [(3, .int (nI k)), (2, .ref (a + (631 + 2 * j))), (0, .ref a), (1, .int (nI j))] [] := by
    intro n_38
    induction n_38 with
    | zero =>
      intro k hk_38
      rw [show k = 3 by omega]
      refine x_iload_n C (dk ddX10_rest 23 rfl) rfl ?_
      refine x_iconst C (v := nI 3) (dk ddX10_rest 24 rfl) (by decide) ?_
      refine x_icmp_ge_n C (tgt := 64) (dk ddX10_rest 25 rfl) (by decide) (by decide) (by decide) (fun _ => ?_) (fun h_ => absurd h_ (by decide))
      refine x_aload_n C (dk ddX10_rest 36 rfl) rfl ?_
      refine x_getr C flX10_10 rfl (by have h_ := hC.1; omega) hC.fld.1 (show ax_R G a 0 = some (a + 1) from hC.fld.2.2 (0, 1) (by decide)) (dk ddX10_rest 37 rfl) ?_
      refine x_aload_n C (dk ddX10_rest 38 rfl) rfl ?_
      refine x_geti C flX10_359 rfl (hC.shelf (k := j) (by omega)).2.1 (hC.shelf (k := j) (by omega)).2.2.1 (dk ddX10_rest 39 rfl) ?_
      rw [show (I (a + (631 + 2 * j)) 0) = nI g from (by repeat (first | exact ax_u_at _ _ _ _ | exact hr | rw [ax_u_ne (by omega)] | rw [ax_u_nj (by decide)] | rw [ax_sc_ne (by omega)] | unfold ax_ldI | unfold ax_woI | unfold ax_rxI | unfold ax_frI0 | unfold ax_frI1 | unfold ax_frI2 | rw [hI_ _ (by omega)] | rw [hN_ (by omega)]))]
      refine x_aload_n C (dk ddX10_rest 40 rfl) rfl ?_
      refine x_getr C flX10_69 rfl (by have h_ := hC.1; omega) hC.fld.1 (show ax_R G a 10 = some (a + 597) from hC.fld.2.2 (10, 597) (by decide)) (dk ddX10_rest 41 rfl) ?_
      refine x_callV C (ci := 7) (As := [.int (nI g), .ref (a + 597)]) (k_X7_fill l D T o (d - 1) G I (ax_re3 a j 3 L) (a + 1) g (a + 597) (gn g) (gc g) hC.state hC.nothing (by omega) (by omega) (by repeat (first | exact ax_u_at _ _ _ _ | exact (hgn g (by omega)).1 | rw [ax_u_ne (by omega)] | rw [ax_u_nj (by decide)] | rw [ax_sc_ne (by omega)] | unfold ax_ldI | unfold ax_woI | unfold ax_rxI | unfold ax_frI0 | unfold ax_frI1 | unfold ax_frI2 | rw [hI_ _ (by omega)] | rw [hN_ (by omega)])) (hgn g (by omega)).2 (by repeat (first | exact ax_u_at _ _ _ _ | exact (hgc g (by omega)).1 | rw [ax_u_ne (by omega)] | rw [ax_u_nj (by decide)] | rw [ax_sc_ne (by omega)] | unfold ax_ldI | unfold ax_woI | unfold ax_rxI | unfold ax_frI0 | unfold ax_frI1 | unfold ax_frI2 | rw [hI_ _ (by omega)] | rw [hN_ (by omega)])) (hgc g (by omega)).2 (by omega)) mlX10_137 rfl rfl (by have h_ := hC.state.1; omega) (show ax_K G (a + 1) = 8 + 7 from (hC.state.2 0 _ rfl).1) ⟨by show d - 1 + 1 ≤ d; omega, by show 40 * (d - 1 + 1) ≤ 40 * d; omega⟩ ⟨Nat.le_refl _, Nat.le_refl _⟩ rfl (Nat.le_of_ble_eq_true rfl) (dk ddX10_rest 42 rfl) ?_
      rintro v_ G_ I_ L_ ⟨rfl, rfl, rfl, rfl⟩
      refine x_aload_n C (dk ddX10_rest 43 rfl) rfl ?_
      refine x_getr C flX10_69 rfl (by have h_ := hC.1; omega) hC.fld.1 (show ax_R G a 10 = some (a + 597) from hC.fld.2.2 (10, 597) (by decide)) (dk ddX10_rest 44 rfl) ?_
      refine x_aload_n C (dk ddX10_rest 45 rfl) rfl ?_
      refine x_getr C flX10_89 rfl (by have h_ := hC.1; omega) hC.fld.1 (show ax_R G a 15 = some (a + 621) from hC.fld.2.2 (15, 621) (by decide)) (dk ddX10_rest 46 rfl) ?_
      refine x_callV C (ci := 2) (As := [.ref (a + 621)]) (k_X2_reduce_n l D T o (d - 1) G (ax_u I (a + 597) 2 (nI (gn g))) (ax_nth I (a + 1) (a + 597) g (gn g) (gc g) (ax_re3 a j 3 L)) (a + 597) (a + 621) (gn g) 6 hC.nothing (by repeat (first | exact ax_u_at _ _ _ _ | rw [ax_u_ne (by omega)] | rw [ax_u_nj (by decide)] | rw [ax_sc_ne (by omega)] | unfold ax_ldI | unfold ax_woI | unfold ax_rxI | unfold ax_frI0 | unfold ax_frI1 | unfold ax_frI2 | rw [hI_ _ (by omega)] | rw [hN_ (by omega)])) (Nat.le_trans (hgn g (by omega)).2 (by decide)) ⟨hC.row.1, hC.row.2.1, hC.row.2.2⟩ (Nat.le_trans (hgn g (by omega)).2 (by decide)) (by decide) (by omega)) mlX10_163 rfl rfl (by have h_ := hC.nothing.1; omega) hC.nothing.2.1 ⟨by show d - 1 + 1 ≤ d; omega, by show 40 * (d - 1 + 1) ≤ 40 * d; omega⟩ ⟨Nat.le_refl _, Nat.le_refl _⟩ rfl (Nat.le_of_ble_eq_true rfl) (dk ddX10_rest 47 rfl) ?_
      rintro v_ G_ I_ L_ ⟨rfl, rfl, rfl, rfl⟩
      refine x_aload_n C (dk ddX10_rest 48 rfl) rfl ?_
      refine x_aload_n C (dk ddX10_rest 49 rfl) rfl ?_
      refine x_callV C (ci := 10) (As := [.ref (a + (631 + 2 * j))]) (k_X10_layAgain l D T o (d - 1) G (ax_u I (a + 597) 2 (nI (gn g))) (ax_rfo (a + 597) (a + 621) (gn g) 0 ((gn g) - 0) (ax_nth I (a + 1) (a + 597) g (gn g) (gc g) (ax_re3 a j 3 L))) a (a + (631 + 2 * j)) (a + (632 + 2 * j)) hC (hC.shelf (k := j) (by omega)).2 (by omega)) mlX10_363 rfl rfl (by have h_ := hC.1; omega) hC.fld.1 ⟨by show d - 1 + 1 ≤ d; omega, by show 40 * (d - 1 + 1) ≤ 40 * d; omega⟩ ⟨Nat.le_refl _, Nat.le_refl _⟩ rfl (Nat.le_of_ble_eq_true rfl) (dk ddX10_rest 50 rfl) ?_
      rintro v_ G_ I_ L_ ⟨rfl, rfl, rfl, rfl⟩
      exact x_iret C rfl ⟨rfl, rfl, rfl, rfl⟩ rfl rfl (dk ddX10_rest 51 rfl)
    | succ n_38 ih_38 =>
      intro k hk_38
      refine x_iload_n C (dk ddX10_rest 23 rfl) rfl ?_
      refine x_iconst C (v := nI 3) (dk ddX10_rest 24 rfl) (by decide) ?_
      refine x_icmp_ge_n C (tgt := 64) (dk ddX10_rest 25 rfl) (by decide) (by omega) (by decide) (fun h43 => ?_) (fun h43 => ?_)
      · exfalso
        omega
      · refine x_aload_n C (dk ddX10_rest 26 rfl) rfl ?_
        refine x_getr C flX10_89 rfl (by have h_ := hC.1; omega) hC.fld.1 (show ax_R G a 15 = some (a + 621) from hC.fld.2.2 (15, 621) (by decide)) (dk ddX10_rest 27 rfl) ?_
        refine x_iload_n C (dk ddX10_rest 28 rfl) rfl ?_
        refine x_aload_n C (dk ddX10_rest 29 rfl) rfl ?_
        refine x_getr C flX10_362 rfl (hC.shelf (k := j) (by omega)).2.1 (hC.shelf (k := j) (by omega)).2.2.1 (hC.shelf (k := j) (by omega)).2.2.2.1 (dk ddX10_rest 30 rfl) ?_
        refine x_iload_n C (dk ddX10_rest 31 rfl) rfl ?_
        refine x_lald_n C (hC.shelf (k := j) (by omega)).2.2.2.2.1 (hC.shelf (k := j) (by omega)).2.2.2.2.2.1 (hC.shelf (k := j) (by omega)).2.2.2.2.2.2 (by omega) (by decide) (dk ddX10_rest 32 rfl) ?_
        refine x_last_n C hC.row.1 hC.row.2.1 hC.row.2.2 (by omega) (by decide) (dk ddX10_rest 33 rfl) ?_
        refine x_iinc C (v := nI (k + 1)) (lv' := [(3, .int (nI (k + 1))), (2, .ref (a + (631 + 2 * j))), (0, .ref a), (1, .int (nI j))]) (dk ddX10_rest 34 rfl) rfl (nI_add k 1) (by decide) rfl ?_
        refine x_goto C (tgt := 41) (dk ddX10_rest 35 rfl) (by decide) ?_
        have e_ : ax_re3 a j (k + 1) L = ax_u (ax_re3 a j k L) (a + 621) k ((ax_re3 a j k L) (a + (632 + 2 * j)) k) := rfl
        refine x_sub [0, 1, 2, 3] (lv' := [(3, .int (nI (k + 1))), (2, .ref (a + (631 + 2 * j))), (0, .ref a), (1, .int (nI j))]) rfl ?_
        have h_ := ih_38 (k + 1) (by omega)
        rw [e_] at h_
        exact h_
  refine x_sub [0, 1, 2, 3] (lv' := [(3, .int (nI 0)), (2, .ref (a + (631 + 2 * j))), (0, .ref a), (1, .int (nI j))]) rfl ?_
  exact hl38 3 0 (by omega)
set_option maxRecDepth 20000 in
/-- lies, refused -/
theorem k_X10_lies_bad (l : Launch) (D : va_G) (T : Nat → ClassId) (o d : Nat) (G : ax_G) (I : ax_I) (L : ax_L) (a : Nat) (j z : Int32) (hC : ax_Cls G a) (hbad : ax_rng j 4 = false ∨ z < 0 ∨ nI 3 < z) (hd : 3 ≤ d) : ax_Con l D T o yX10_lies cX10_lies 4 (some .long) d 0 0 [.ref a, .int j, .int z] G I L (fun zz G' I' L' => zz = some (.long ((-4000000000000000000) + (-1).toInt64)) ∧ G = G' ∧ I = I' ∧ L = L') := by
  refine ax_enter (by decide +kernel) (Nat.le_of_ble_eq_true rfl) ?_
  intro p_ e_ s_ m_ args_ below_ meth_ c_ C _
  refine x_lvs (lv' := [(0, .ref a), (1, .int j), (2, .int z)]) rfl ?_
  refine x_iload_n C (dk ddX10_lies 0 rfl) rfl ?_
  refine x_callS C (As := [.int j]) (k_X10_isShelf l D T o (d - 1) G I L j) mlX10_344 ⟨by show d - 1 + 1 ≤ d; omega, by show 40 * (d - 1 + 1) ≤ 40 * d; omega⟩ ⟨Nat.le_refl _, Nat.le_refl _⟩ rfl (Nat.le_of_ble_eq_true rfl) (dk ddX10_lies 1 rfl) ?_
  rintro v_ G_ I_ L_ ⟨rfl, rfl, rfl, rfl⟩
  refine x_if_eq_b C (tgt := 16) (dk ddX10_lies 2 rfl) (by decide) (fun h4 => ?_) (fun h4 => ?_)
  · refine x_iconst C (v := (-1)) (dk ddX10_lies 8 rfl) (by decide) ?_
    refine x_callS C (As := [.int (-1)]) (k_X10_refused l D T o (d - 1) G I L (-1)) mlX10_160 ⟨by show d - 1 + 1 ≤ d; omega, by show 40 * (d - 1 + 1) ≤ 40 * d; omega⟩ ⟨Nat.le_refl _, Nat.le_refl _⟩ rfl (Nat.le_of_ble_eq_true rfl) (dk ddX10_lies 9 rfl) ?_
    rintro v_ G_ I_ L_ ⟨rfl, rfl, rfl, rfl⟩
    exact x_lret C rfl ⟨rfl, rfl, rfl, rfl⟩ rfl rfl (dk ddX10_lies 10 rfl)
  · refine x_iload_n C (dk ddX10_lies 3 rfl) rfl ?_
    refine x_if_lt C (tgt := 16) (dk ddX10_lies 4 rfl) (by decide) (fun h8 => ?_) (fun h8 => ?_)
    · have h8c := Int32.not_le.mpr h8
      refine x_iconst C (v := (-1)) (dk ddX10_lies 8 rfl) (by decide) ?_
      refine x_callS C (As := [.int (-1)]) (k_X10_refused l D T o (d - 1) G I L (-1)) mlX10_160 ⟨by show d - 1 + 1 ≤ d; omega, by show 40 * (d - 1 + 1) ≤ 40 * d; omega⟩ ⟨Nat.le_refl _, Nat.le_refl _⟩ rfl (Nat.le_of_ble_eq_true rfl) (dk ddX10_lies 9 rfl) ?_
      rintro v_ G_ I_ L_ ⟨rfl, rfl, rfl, rfl⟩
      exact x_lret C rfl ⟨rfl, rfl, rfl, rfl⟩ rfl rfl (dk ddX10_lies 10 rfl)
    · have h8c := Int32.not_lt.mp h8
      refine x_iload_n C (dk ddX10_lies 5 rfl) rfl ?_
      refine x_iconst C (v := nI 3) (dk ddX10_lies 6 rfl) (by decide) ?_
      refine x_icmp_le C (tgt := 21) (dk ddX10_lies 7 rfl) (by decide) (fun h13 => ?_) (fun h13 => ?_)
      · have h13c := Int32.not_lt.mpr h13
        exfalso
        rcases hbad with hq_ | hq_ | hq_ <;> first | exact absurd hq_ (by assumption) | (simp_all; done)
      · have h13c := Int32.not_le.mp h13
        refine x_iconst C (v := (-1)) (dk ddX10_lies 8 rfl) (by decide) ?_
        refine x_callS C (As := [.int (-1)]) (k_X10_refused l D T o (d - 1) G I L (-1)) mlX10_160 ⟨by show d - 1 + 1 ≤ d; omega, by show 40 * (d - 1 + 1) ≤ 40 * d; omega⟩ ⟨Nat.le_refl _, Nat.le_refl _⟩ rfl (Nat.le_of_ble_eq_true rfl) (dk ddX10_lies 9 rfl) ?_
        rintro v_ G_ I_ L_ ⟨rfl, rfl, rfl, rfl⟩
        exact x_lret C rfl ⟨rfl, rfl, rfl, rfl⟩ rfl rfl (dk ddX10_lies 10 rfl)
set_option maxRecDepth 20000 in
/-- lies(j, 3) -/
theorem k_X10_lies_3 (l : Launch) (D : va_G) (T : Nat → ClassId) (o d : Nat) (G : ax_G) (I : ax_I) (L : ax_L) (a j : Nat) (hC : ax_Cls G a) (hj : j < 4) (hd : 3 ≤ d) : ax_Con l D T o yX10_lies cX10_lies 4 (some .long) d 0 0 [.ref a, .int (nI j), .int (nI 3)] G I L (fun zz G' I' L' => zz = some (.long (if (decide (I (a + (631 + 2 * j)) 0 = -1) && decide (I (a + (631 + 2 * j)) 2 = -1)) = true then (-4000000000000000000) + (-11).toInt64 else (if (I (a + (631 + 2 * j)) 0) = (-1) then (-4000000000000000000) + (-13).toInt64 else (I (a + (631 + 2 * j)) 0).toInt64))) ∧ G = G' ∧ I = I' ∧ L = L') := by
  refine ax_enter (by decide +kernel) (Nat.le_of_ble_eq_true rfl) ?_
  intro p_ e_ s_ m_ args_ below_ meth_ c_ C _
  refine x_lvs (lv' := [(0, .ref a), (1, .int (nI j)), (2, .int (nI 3))]) rfl ?_
  refine x_iload_n C (dk ddX10_lies 0 rfl) rfl ?_
  refine x_callS C (As := [.int (nI j)]) (k_X10_isShelf l D T o (d - 1) G I L (nI j)) mlX10_344 ⟨by show d - 1 + 1 ≤ d; omega, by show 40 * (d - 1 + 1) ≤ 40 * d; omega⟩ ⟨Nat.le_refl _, Nat.le_refl _⟩ rfl (Nat.le_of_ble_eq_true rfl) (dk ddX10_lies 1 rfl) ?_
  rintro v_ G_ I_ L_ ⟨rfl, rfl, rfl, rfl⟩
  rw [show (ax_rng (nI j) 4) = true from ax_rng_ok (h := 4) (by omega) (by decide)]
  refine x_if_eq_b C (tgt := 16) (dk ddX10_lies 2 rfl) (by decide) (fun h_ => absurd h_ (by decide)) (fun _ => ?_)
  refine x_iload_n C (dk ddX10_lies 3 rfl) rfl ?_
  refine x_if_lt_n C (tgt := 16) (dk ddX10_lies 4 rfl) (by decide) (by decide) (fun h_ => absurd h_ (by decide)) (fun _ => ?_)
  refine x_iload_n C (dk ddX10_lies 5 rfl) rfl ?_
  refine x_iconst C (v := nI 3) (dk ddX10_lies 6 rfl) (by decide) ?_
  refine x_icmp_le_n C (tgt := 21) (dk ddX10_lies 7 rfl) (by decide) (by decide) (by decide) (fun _ => ?_) (fun h_ => absurd h_ (by decide))
  refine x_aload_n C (dk ddX10_lies 11 rfl) rfl ?_
  refine x_getr C flX10_52 rfl (by have h_ := hC.1; omega) hC.fld.1 (show ax_R G a 7 = some (a + 482) from hC.fld.2.2 (7, 482) (by decide)) (dk ddX10_lies 12 rfl) ?_
  refine x_iload_n C (dk ddX10_lies 13 rfl) rfl ?_
  refine x_aald6_n C hC.shelfs.1 hC.shelfs.2.1 hC.shelfs.2.2 (by omega) (by decide) (hC.shelf (k := j) (by omega)).1 (dk ddX10_lies 14 rfl) ?_
  refine x_astore_n C (lv' := [(3, .ref (a + (631 + 2 * j))), (0, .ref a), (1, .int (nI j)), (2, .int (nI 3))]) (dk ddX10_lies 15 rfl) (by decide) rfl ?_
  refine x_aload_n C (dk ddX10_lies 16 rfl) rfl ?_
  refine x_callV C (ci := 6) (As := []) (k_X6_isEmpty l D T o (d - 1) G I L (a + (631 + 2 * j)) (a + (632 + 2 * j)) (hC.shelf (k := j) (by omega)).2) mlX10_356 rfl rfl (hC.shelf (k := j) (by omega)).2.1 (hC.shelf (k := j) (by omega)).2.2.1 ⟨by show d - 1 + 1 ≤ d; omega, by show 40 * (d - 1 + 1) ≤ 40 * d; omega⟩ ⟨Nat.le_refl _, Nat.le_refl _⟩ rfl (Nat.le_of_ble_eq_true rfl) (dk ddX10_lies 17 rfl) ?_
  rintro v_ G_ I_ L_ ⟨rfl, rfl, rfl, rfl⟩
  refine x_if_eq_b C (tgt := 41) (dk ddX10_lies 18 rfl) (by decide) (fun h32 => ?_) (fun h32 => ?_)
  · refine x_aload_n C (dk ddX10_lies 22 rfl) rfl ?_
    refine x_geti C flX10_359 rfl (hC.shelf (k := j) (by omega)).2.1 (hC.shelf (k := j) (by omega)).2.2.1 (dk ddX10_lies 23 rfl) ?_
    refine x_iconst C (v := (-1)) (dk ddX10_lies 24 rfl) (by decide) ?_
    refine x_icmp_ne C (tgt := 55) (dk ddX10_lies 25 rfl) (by decide) (fun h46 => ?_) (fun h46 => ?_)
    · refine x_iload_n C (dk ddX10_lies 29 rfl) rfl ?_
      refine x_iconst C (v := nI 3) (dk ddX10_lies 30 rfl) (by decide) ?_
      refine x_icmp_ne_n C (tgt := 68) (dk ddX10_lies 31 rfl) (by decide) (by decide) (by decide) (fun h_ => absurd h_ (by decide)) (fun _ => ?_)
      refine x_aload_n C (dk ddX10_lies 32 rfl) rfl ?_
      refine x_geti C flX10_359 rfl (hC.shelf (k := j) (by omega)).2.1 (hC.shelf (k := j) (by omega)).2.2.1 (dk ddX10_lies 33 rfl) ?_
      refine x_i2l C (dk ddX10_lies 34 rfl) ?_
      refine x_goto C (tgt := 74) (dk ddX10_lies 35 rfl) (by decide) ?_
      exact x_lret C rfl ⟨(by rw [if_neg (Bool.eq_false_iff.mp h32), if_neg h46] <;> rfl), rfl, rfl, rfl⟩ rfl rfl (dk ddX10_lies 40 rfl)
    · refine x_bipush C (v := (-13)) (dk ddX10_lies 26 rfl) (by decide) ?_
      refine x_callS C (As := [.int (-13)]) (k_X10_refused l D T o (d - 1) G I L (-13)) mlX10_160 ⟨by show d - 1 + 1 ≤ d; omega, by show 40 * (d - 1 + 1) ≤ 40 * d; omega⟩ ⟨Nat.le_refl _, Nat.le_refl _⟩ rfl (Nat.le_of_ble_eq_true rfl) (dk ddX10_lies 27 rfl) ?_
      rintro v_ G_ I_ L_ ⟨rfl, rfl, rfl, rfl⟩
      exact x_lret C rfl ⟨(by rw [if_neg (Bool.eq_false_iff.mp h32), if_pos h46] <;> rfl), rfl, rfl, rfl⟩ rfl rfl (dk ddX10_lies 28 rfl)
  · refine x_bipush C (v := (-11)) (dk ddX10_lies 19 rfl) (by decide) ?_
    refine x_callS C (As := [.int (-11)]) (k_X10_refused l D T o (d - 1) G I L (-11)) mlX10_160 ⟨by show d - 1 + 1 ≤ d; omega, by show 40 * (d - 1 + 1) ≤ 40 * d; omega⟩ ⟨Nat.le_refl _, Nat.le_refl _⟩ rfl (Nat.le_of_ble_eq_true rfl) (dk ddX10_lies 20 rfl) ?_
    rintro v_ G_ I_ L_ ⟨rfl, rfl, rfl, rfl⟩
    exact x_lret C rfl ⟨(by rw [if_pos h32] <;> rfl), rfl, rfl, rfl⟩ rfl rfl (dk ddX10_lies 21 rfl)
set_option maxRecDepth 20000 in
/-- lies(j, z) -/
theorem k_X10_lies (l : Launch) (D : va_G) (T : Nat → ClassId) (o d : Nat) (G : ax_G) (I : ax_I) (L : ax_L) (a j z : Nat) (hC : ax_Cls G a) (hj : j < 4) (hz : z < 3) (hd : 3 ≤ d) : ax_Con l D T o yX10_lies cX10_lies 4 (some .long) d 0 0 [.ref a, .int (nI j), .int (nI z)] G I L (fun zz G' I' L' => zz = some (.long (if (decide (I (a + (631 + 2 * j)) 0 = -1) && decide (I (a + (631 + 2 * j)) 2 = -1)) = true then (-4000000000000000000) + (-11).toInt64 else (if (I (a + (631 + 2 * j)) 0) = (-1) then (-4000000000000000000) + (-13).toInt64 else L (a + (632 + 2 * j)) z))) ∧ G = G' ∧ I = I' ∧ L = L') := by
  refine ax_enter (by decide +kernel) (Nat.le_of_ble_eq_true rfl) ?_
  intro p_ e_ s_ m_ args_ below_ meth_ c_ C _
  refine x_lvs (lv' := [(0, .ref a), (1, .int (nI j)), (2, .int (nI z))]) rfl ?_
  refine x_iload_n C (dk ddX10_lies 0 rfl) rfl ?_
  refine x_callS C (As := [.int (nI j)]) (k_X10_isShelf l D T o (d - 1) G I L (nI j)) mlX10_344 ⟨by show d - 1 + 1 ≤ d; omega, by show 40 * (d - 1 + 1) ≤ 40 * d; omega⟩ ⟨Nat.le_refl _, Nat.le_refl _⟩ rfl (Nat.le_of_ble_eq_true rfl) (dk ddX10_lies 1 rfl) ?_
  rintro v_ G_ I_ L_ ⟨rfl, rfl, rfl, rfl⟩
  rw [show (ax_rng (nI j) 4) = true from ax_rng_ok (h := 4) (by omega) (by decide)]
  refine x_if_eq_b C (tgt := 16) (dk ddX10_lies 2 rfl) (by decide) (fun h_ => absurd h_ (by decide)) (fun _ => ?_)
  refine x_iload_n C (dk ddX10_lies 3 rfl) rfl ?_
  refine x_if_lt_n C (tgt := 16) (dk ddX10_lies 4 rfl) (by decide) (by omega) (fun h8 => ?_) (fun h8 => ?_)
  · exfalso
    omega
  · refine x_iload_n C (dk ddX10_lies 5 rfl) rfl ?_
    refine x_iconst C (v := nI 3) (dk ddX10_lies 6 rfl) (by decide) ?_
    refine x_icmp_le_n C (tgt := 21) (dk ddX10_lies 7 rfl) (by decide) (by omega) (by decide) (fun h13 => ?_) (fun h13 => ?_)
    · refine x_aload_n C (dk ddX10_lies 11 rfl) rfl ?_
      refine x_getr C flX10_52 rfl (by have h_ := hC.1; omega) hC.fld.1 (show ax_R G a 7 = some (a + 482) from hC.fld.2.2 (7, 482) (by decide)) (dk ddX10_lies 12 rfl) ?_
      refine x_iload_n C (dk ddX10_lies 13 rfl) rfl ?_
      refine x_aald6_n C hC.shelfs.1 hC.shelfs.2.1 hC.shelfs.2.2 (by omega) (by decide) (hC.shelf (k := j) (by omega)).1 (dk ddX10_lies 14 rfl) ?_
      refine x_astore_n C (lv' := [(3, .ref (a + (631 + 2 * j))), (0, .ref a), (1, .int (nI j)), (2, .int (nI z))]) (dk ddX10_lies 15 rfl) (by decide) rfl ?_
      refine x_aload_n C (dk ddX10_lies 16 rfl) rfl ?_
      refine x_callV C (ci := 6) (As := []) (k_X6_isEmpty l D T o (d - 1) G I L (a + (631 + 2 * j)) (a + (632 + 2 * j)) (hC.shelf (k := j) (by omega)).2) mlX10_356 rfl rfl (hC.shelf (k := j) (by omega)).2.1 (hC.shelf (k := j) (by omega)).2.2.1 ⟨by show d - 1 + 1 ≤ d; omega, by show 40 * (d - 1 + 1) ≤ 40 * d; omega⟩ ⟨Nat.le_refl _, Nat.le_refl _⟩ rfl (Nat.le_of_ble_eq_true rfl) (dk ddX10_lies 17 rfl) ?_
      rintro v_ G_ I_ L_ ⟨rfl, rfl, rfl, rfl⟩
      refine x_if_eq_b C (tgt := 41) (dk ddX10_lies 18 rfl) (by decide) (fun h32 => ?_) (fun h32 => ?_)
      · refine x_aload_n C (dk ddX10_lies 22 rfl) rfl ?_
        refine x_geti C flX10_359 rfl (hC.shelf (k := j) (by omega)).2.1 (hC.shelf (k := j) (by omega)).2.2.1 (dk ddX10_lies 23 rfl) ?_
        refine x_iconst C (v := (-1)) (dk ddX10_lies 24 rfl) (by decide) ?_
        refine x_icmp_ne C (tgt := 55) (dk ddX10_lies 25 rfl) (by decide) (fun h46 => ?_) (fun h46 => ?_)
        · refine x_iload_n C (dk ddX10_lies 29 rfl) rfl ?_
          refine x_iconst C (v := nI 3) (dk ddX10_lies 30 rfl) (by decide) ?_
          refine x_icmp_ne_n C (tgt := 68) (dk ddX10_lies 31 rfl) (by decide) (by omega) (by decide) (fun h57 => ?_) (fun h57 => ?_)
          · refine x_aload_n C (dk ddX10_lies 36 rfl) rfl ?_
            refine x_getr C flX10_362 rfl (hC.shelf (k := j) (by omega)).2.1 (hC.shelf (k := j) (by omega)).2.2.1 (hC.shelf (k := j) (by omega)).2.2.2.1 (dk ddX10_lies 37 rfl) ?_
            refine x_iload_n C (dk ddX10_lies 38 rfl) rfl ?_
            refine x_lald_n C (hC.shelf (k := j) (by omega)).2.2.2.2.1 (hC.shelf (k := j) (by omega)).2.2.2.2.2.1 (hC.shelf (k := j) (by omega)).2.2.2.2.2.2 (by omega) (by decide) (dk ddX10_lies 39 rfl) ?_
            exact x_lret C rfl ⟨(by rw [if_neg (Bool.eq_false_iff.mp h32), if_neg h46] <;> rfl), rfl, rfl, rfl⟩ rfl rfl (dk ddX10_lies 40 rfl)
          · exfalso
            omega
        · refine x_bipush C (v := (-13)) (dk ddX10_lies 26 rfl) (by decide) ?_
          refine x_callS C (As := [.int (-13)]) (k_X10_refused l D T o (d - 1) G I L (-13)) mlX10_160 ⟨by show d - 1 + 1 ≤ d; omega, by show 40 * (d - 1 + 1) ≤ 40 * d; omega⟩ ⟨Nat.le_refl _, Nat.le_refl _⟩ rfl (Nat.le_of_ble_eq_true rfl) (dk ddX10_lies 27 rfl) ?_
          rintro v_ G_ I_ L_ ⟨rfl, rfl, rfl, rfl⟩
          exact x_lret C rfl ⟨(by rw [if_neg (Bool.eq_false_iff.mp h32), if_pos h46] <;> rfl), rfl, rfl, rfl⟩ rfl rfl (dk ddX10_lies 28 rfl)
      · refine x_bipush C (v := (-11)) (dk ddX10_lies 19 rfl) (by decide) ?_
        refine x_callS C (As := [.int (-11)]) (k_X10_refused l D T o (d - 1) G I L (-11)) mlX10_160 ⟨by show d - 1 + 1 ≤ d; omega, by show 40 * (d - 1 + 1) ≤ 40 * d; omega⟩ ⟨Nat.le_refl _, Nat.le_refl _⟩ rfl (Nat.le_of_ble_eq_true rfl) (dk ddX10_lies 20 rfl) ?_
        rintro v_ G_ I_ L_ ⟨rfl, rfl, rfl, rfl⟩
        exact x_lret C rfl ⟨(by rw [if_pos h32] <;> rfl), rfl, rfl, rfl⟩ rfl rfl (dk ddX10_lies 21 rfl)
    · exfalso
      omega
set_option maxRecDepth 20000 in
/-- taken, refused -/
theorem k_X10_taken_bad (l : Launch) (D : va_G) (T : Nat → ClassId) (o d : Nat) (G : ax_G) (I : ax_I) (L : ax_L) (a : Nat) (j z : Int32) (hC : ax_Cls G a) (hbad : ax_rng j 4 = false) (hd : 3 ≤ d) : ax_Con l D T o yX10_taken cX10_taken 5 (some .int) d 0 0 [.ref a, .int j, .int z] G I L (fun zz G' I' L' => zz = some (.int ((-1))) ∧ G = G' ∧ I = I' ∧ L = L') := by
  refine ax_enter (by decide +kernel) (Nat.le_of_ble_eq_true rfl) ?_
  intro p_ e_ s_ m_ args_ below_ meth_ c_ C _
  refine x_lvs (lv' := [(0, .ref a), (1, .int j), (2, .int z)]) rfl ?_
  refine x_iload_n C (dk ddX10_taken 0 rfl) rfl ?_
  refine x_bipush C (v := nI 10) (dk ddX10_taken 1 rfl) (by decide) ?_
  refine x_icmp_lt C (tgt := 16) (dk ddX10_taken 2 rfl) (by decide) (fun h3 => ?_) (fun h3 => ?_)
  · have h3c := Int32.not_le.mpr h3
    refine x_iconst C (v := nI 0) (dk ddX10_taken 8 rfl) (by decide) ?_
    refine x_istore_n C (lv' := [(3, .int (nI 0)), (0, .ref a), (1, .int j), (2, .int z)]) (dk ddX10_taken 9 rfl) (by decide) rfl ?_
    refine x_iload_n C (dk ddX10_taken 10 rfl) rfl ?_
    refine x_callS C (As := [.int j]) (k_X10_isShelf l D T o (d - 1) G I L j) mlX10_344 ⟨by show d - 1 + 1 ≤ d; omega, by show 40 * (d - 1 + 1) ≤ 40 * d; omega⟩ ⟨Nat.le_refl _, Nat.le_refl _⟩ rfl (Nat.le_of_ble_eq_true rfl) (dk ddX10_taken 11 rfl) ?_
    rintro v_ G_ I_ L_ ⟨rfl, rfl, rfl, rfl⟩
    refine x_if_eq_b C (tgt := 36) (dk ddX10_taken 12 rfl) (by decide) (fun h22 => ?_) (fun h22 => ?_)
    · refine x_iconst C (v := (-1)) (dk ddX10_taken 18 rfl) (by decide) ?_
      exact x_iret C rfl ⟨rfl, rfl, rfl, rfl⟩ rfl rfl (dk ddX10_taken 19 rfl)
    · refine x_iload_n C (dk ddX10_taken 13 rfl) rfl ?_
      refine x_callS C (As := [.int z]) (k_X10_isGroup l D T o (d - 1) G I L z) mlX10_98 ⟨by show d - 1 + 1 ≤ d; omega, by show 40 * (d - 1 + 1) ≤ 40 * d; omega⟩ ⟨Nat.le_refl _, Nat.le_refl _⟩ rfl (Nat.le_of_ble_eq_true rfl) (dk ddX10_taken 14 rfl) ?_
      rintro v_ G_ I_ L_ ⟨rfl, rfl, rfl, rfl⟩
      refine x_if_ne_b C (tgt := 38) (dk ddX10_taken 15 rfl) (by decide) (fun h29 => ?_) (fun h29 => ?_)
      · exfalso
        first | exact absurd hbad (by assumption) | (simp_all; done)
      · refine x_iload_n C (dk ddX10_taken 16 rfl) rfl ?_
        refine x_if_ne_n C (tgt := 38) (dk ddX10_taken 17 rfl) (by decide) (by decide) (fun h_ => absurd h_ (by decide)) (fun _ => ?_)
        refine x_iconst C (v := (-1)) (dk ddX10_taken 18 rfl) (by decide) ?_
        exact x_iret C rfl ⟨rfl, rfl, rfl, rfl⟩ rfl rfl (dk ddX10_taken 19 rfl)
  · have h3c := Int32.not_lt.mp h3
    refine x_iload_n C (dk ddX10_taken 3 rfl) rfl ?_
    refine x_bipush C (v := nI 12) (dk ddX10_taken 4 rfl) (by decide) ?_
    refine x_icmp_gt C (tgt := 16) (dk ddX10_taken 5 rfl) (by decide) (fun h9 => ?_) (fun h9 => ?_)
    · have h9c := Int32.not_le.mpr h9
      refine x_iconst C (v := nI 0) (dk ddX10_taken 8 rfl) (by decide) ?_
      refine x_istore_n C (lv' := [(3, .int (nI 0)), (0, .ref a), (1, .int j), (2, .int z)]) (dk ddX10_taken 9 rfl) (by decide) rfl ?_
      refine x_iload_n C (dk ddX10_taken 10 rfl) rfl ?_
      refine x_callS C (As := [.int j]) (k_X10_isShelf l D T o (d - 1) G I L j) mlX10_344 ⟨by show d - 1 + 1 ≤ d; omega, by show 40 * (d - 1 + 1) ≤ 40 * d; omega⟩ ⟨Nat.le_refl _, Nat.le_refl _⟩ rfl (Nat.le_of_ble_eq_true rfl) (dk ddX10_taken 11 rfl) ?_
      rintro v_ G_ I_ L_ ⟨rfl, rfl, rfl, rfl⟩
      refine x_if_eq_b C (tgt := 36) (dk ddX10_taken 12 rfl) (by decide) (fun h22 => ?_) (fun h22 => ?_)
      · refine x_iconst C (v := (-1)) (dk ddX10_taken 18 rfl) (by decide) ?_
        exact x_iret C rfl ⟨rfl, rfl, rfl, rfl⟩ rfl rfl (dk ddX10_taken 19 rfl)
      · refine x_iload_n C (dk ddX10_taken 13 rfl) rfl ?_
        refine x_callS C (As := [.int z]) (k_X10_isGroup l D T o (d - 1) G I L z) mlX10_98 ⟨by show d - 1 + 1 ≤ d; omega, by show 40 * (d - 1 + 1) ≤ 40 * d; omega⟩ ⟨Nat.le_refl _, Nat.le_refl _⟩ rfl (Nat.le_of_ble_eq_true rfl) (dk ddX10_taken 14 rfl) ?_
        rintro v_ G_ I_ L_ ⟨rfl, rfl, rfl, rfl⟩
        refine x_if_ne_b C (tgt := 38) (dk ddX10_taken 15 rfl) (by decide) (fun h29 => ?_) (fun h29 => ?_)
        · exfalso
          first | exact absurd hbad (by assumption) | (simp_all; done)
        · refine x_iload_n C (dk ddX10_taken 16 rfl) rfl ?_
          refine x_if_ne_n C (tgt := 38) (dk ddX10_taken 17 rfl) (by decide) (by decide) (fun h_ => absurd h_ (by decide)) (fun _ => ?_)
          refine x_iconst C (v := (-1)) (dk ddX10_taken 18 rfl) (by decide) ?_
          exact x_iret C rfl ⟨rfl, rfl, rfl, rfl⟩ rfl rfl (dk ddX10_taken 19 rfl)
    · have h9c := Int32.not_lt.mp h9
      refine x_iconst C (v := nI 1) (dk ddX10_taken 6 rfl) (by decide) ?_
      refine x_goto C (tgt := 17) (dk ddX10_taken 7 rfl) (by decide) ?_
      refine x_istore_n C (lv' := [(3, .int (nI 1)), (0, .ref a), (1, .int j), (2, .int z)]) (dk ddX10_taken 9 rfl) (by decide) rfl ?_
      refine x_iload_n C (dk ddX10_taken 10 rfl) rfl ?_
      refine x_callS C (As := [.int j]) (k_X10_isShelf l D T o (d - 1) G I L j) mlX10_344 ⟨by show d - 1 + 1 ≤ d; omega, by show 40 * (d - 1 + 1) ≤ 40 * d; omega⟩ ⟨Nat.le_refl _, Nat.le_refl _⟩ rfl (Nat.le_of_ble_eq_true rfl) (dk ddX10_taken 11 rfl) ?_
      rintro v_ G_ I_ L_ ⟨rfl, rfl, rfl, rfl⟩
      refine x_if_eq_b C (tgt := 36) (dk ddX10_taken 12 rfl) (by decide) (fun h22 => ?_) (fun h22 => ?_)
      · refine x_iconst C (v := (-1)) (dk ddX10_taken 18 rfl) (by decide) ?_
        exact x_iret C rfl ⟨rfl, rfl, rfl, rfl⟩ rfl rfl (dk ddX10_taken 19 rfl)
      · refine x_iload_n C (dk ddX10_taken 13 rfl) rfl ?_
        refine x_callS C (As := [.int z]) (k_X10_isGroup l D T o (d - 1) G I L z) mlX10_98 ⟨by show d - 1 + 1 ≤ d; omega, by show 40 * (d - 1 + 1) ≤ 40 * d; omega⟩ ⟨Nat.le_refl _, Nat.le_refl _⟩ rfl (Nat.le_of_ble_eq_true rfl) (dk ddX10_taken 14 rfl) ?_
        rintro v_ G_ I_ L_ ⟨rfl, rfl, rfl, rfl⟩
        refine x_if_ne_b C (tgt := 38) (dk ddX10_taken 15 rfl) (by decide) (fun h29 => ?_) (fun h29 => ?_)
        · exfalso
          first | exact absurd hbad (by assumption) | (simp_all; done)
        · refine x_iload_n C (dk ddX10_taken 16 rfl) rfl ?_
          refine x_if_ne_n C (tgt := 38) (dk ddX10_taken 17 rfl) (by decide) (by decide) (fun _ => ?_) (fun h_ => absurd h_ (by decide))
          exfalso
          first | exact absurd hbad (by assumption) | (simp_all; done)
def ax_tknv (I : ax_I) (a : Nat) (j : Nat) (z : Int32) : Int32 := if z < (nI 10) then (if (ax_rng z 6) = true then (if (decide (I (a + (631 + 2 * j)) 0 = -1) && decide (I (a + (631 + 2 * j)) 2 = -1)) = true then (-11) else (if (I (a + (631 + 2 * j)) 0) = z then nI 1 else (-13))) else (-1)) else (if (nI 12) < z then (if (ax_rng z 6) = true then (if (decide (I (a + (631 + 2 * j)) 0 = -1) && decide (I (a + (631 + 2 * j)) 2 = -1)) = true then (-11) else (if (I (a + (631 + 2 * j)) 0) = z then nI 1 else (-13))) else (-1)) else (if (decide (I (a + (631 + 2 * j)) 0 = -1) && decide (I (a + (631 + 2 * j)) 2 = -1)) = true then (-11) else (if (I (a + (631 + 2 * j)) 2) = (z - (nI 10)) then I (a + (631 + 2 * j)) 3 else (-13))))
set_option maxRecDepth 20000 in
/-- taken(j, z) -/
theorem k_X10_taken (l : Launch) (D : va_G) (T : Nat → ClassId) (o d : Nat) (G : ax_G) (I : ax_I) (L : ax_L) (a j : Nat) (z : Int32) (hC : ax_Cls G a) (hj : j < 4) (hd : 3 ≤ d) : ax_Con l D T o yX10_taken cX10_taken 5 (some .int) d 0 0 [.ref a, .int (nI j), .int z] G I L (fun zz G' I' L' => zz = some (.int (ax_tknv I a j z)) ∧ G = G' ∧ I = I' ∧ L = L') := by
  refine ax_enter (by decide +kernel) (Nat.le_of_ble_eq_true rfl) ?_
  intro p_ e_ s_ m_ args_ below_ meth_ c_ C _
  refine x_lvs (lv' := [(0, .ref a), (1, .int (nI j)), (2, .int z)]) rfl ?_
  refine x_iload_n C (dk ddX10_taken 0 rfl) rfl ?_
  refine x_bipush C (v := nI 10) (dk ddX10_taken 1 rfl) (by decide) ?_
  refine x_icmp_lt C (tgt := 16) (dk ddX10_taken 2 rfl) (by decide) (fun h3 => ?_) (fun h3 => ?_)
  · have h3c := Int32.not_le.mpr h3
    refine x_iconst C (v := nI 0) (dk ddX10_taken 8 rfl) (by decide) ?_
    refine x_istore_n C (lv' := [(3, .int (nI 0)), (0, .ref a), (1, .int (nI j)), (2, .int z)]) (dk ddX10_taken 9 rfl) (by decide) rfl ?_
    refine x_iload_n C (dk ddX10_taken 10 rfl) rfl ?_
    refine x_callS C (As := [.int (nI j)]) (k_X10_isShelf l D T o (d - 1) G I L (nI j)) mlX10_344 ⟨by show d - 1 + 1 ≤ d; omega, by show 40 * (d - 1 + 1) ≤ 40 * d; omega⟩ ⟨Nat.le_refl _, Nat.le_refl _⟩ rfl (Nat.le_of_ble_eq_true rfl) (dk ddX10_taken 11 rfl) ?_
    rintro v_ G_ I_ L_ ⟨rfl, rfl, rfl, rfl⟩
    rw [show (ax_rng (nI j) 4) = true from ax_rng_ok (h := 4) (by omega) (by decide)]
    refine x_if_eq_b C (tgt := 36) (dk ddX10_taken 12 rfl) (by decide) (fun h_ => absurd h_ (by decide)) (fun _ => ?_)
    refine x_iload_n C (dk ddX10_taken 13 rfl) rfl ?_
    refine x_callS C (As := [.int z]) (k_X10_isGroup l D T o (d - 1) G I L z) mlX10_98 ⟨by show d - 1 + 1 ≤ d; omega, by show 40 * (d - 1 + 1) ≤ 40 * d; omega⟩ ⟨Nat.le_refl _, Nat.le_refl _⟩ rfl (Nat.le_of_ble_eq_true rfl) (dk ddX10_taken 14 rfl) ?_
    rintro v_ G_ I_ L_ ⟨rfl, rfl, rfl, rfl⟩
    refine x_if_ne_b C (tgt := 38) (dk ddX10_taken 15 rfl) (by decide) (fun h29 => ?_) (fun h29 => ?_)
    · refine x_aload_n C (dk ddX10_taken 20 rfl) rfl ?_
      refine x_getr C flX10_52 rfl (by have h_ := hC.1; omega) hC.fld.1 (show ax_R G a 7 = some (a + 482) from hC.fld.2.2 (7, 482) (by decide)) (dk ddX10_taken 21 rfl) ?_
      refine x_iload_n C (dk ddX10_taken 22 rfl) rfl ?_
      refine x_aald6_n C hC.shelfs.1 hC.shelfs.2.1 hC.shelfs.2.2 (by omega) (by decide) (hC.shelf (k := j) (by omega)).1 (dk ddX10_taken 23 rfl) ?_
      refine x_astore C (lv' := [(4, .ref (a + (631 + 2 * j))), (3, .int (nI 0)), (0, .ref a), (1, .int (nI j)), (2, .int z)]) (dk ddX10_taken 24 rfl) (by decide) rfl ?_
      refine x_aload C (dk ddX10_taken 25 rfl) rfl ?_
      refine x_callV C (ci := 6) (As := []) (k_X6_isEmpty l D T o (d - 1) G I L (a + (631 + 2 * j)) (a + (632 + 2 * j)) (hC.shelf (k := j) (by omega)).2) mlX10_356 rfl rfl (hC.shelf (k := j) (by omega)).2.1 (hC.shelf (k := j) (by omega)).2.2.1 ⟨by show d - 1 + 1 ≤ d; omega, by show 40 * (d - 1 + 1) ≤ 40 * d; omega⟩ ⟨Nat.le_refl _, Nat.le_refl _⟩ rfl (Nat.le_of_ble_eq_true rfl) (dk ddX10_taken 26 rfl) ?_
      rintro v_ G_ I_ L_ ⟨rfl, rfl, rfl, rfl⟩
      refine x_if_eq_b C (tgt := 57) (dk ddX10_taken 27 rfl) (by decide) (fun h51 => ?_) (fun h51 => ?_)
      · refine x_iload_n C (dk ddX10_taken 30 rfl) rfl ?_
        refine x_if_eq_n C (tgt := 84) (dk ddX10_taken 31 rfl) (by decide) (by decide) (fun _ => ?_) (fun h_ => absurd h_ (by decide))
        refine x_aload C (dk ddX10_taken 43 rfl) rfl ?_
        refine x_geti C flX10_359 rfl (hC.shelf (k := j) (by omega)).2.1 (hC.shelf (k := j) (by omega)).2.2.1 (dk ddX10_taken 44 rfl) ?_
        refine x_iload_n C (dk ddX10_taken 45 rfl) rfl ?_
        refine x_icmp_ne C (tgt := 97) (dk ddX10_taken 46 rfl) (by decide) (fun h90 => ?_) (fun h90 => ?_)
        · refine x_bipush C (v := (-13)) (dk ddX10_taken 49 rfl) (by decide) ?_
          exact x_iret C rfl ⟨(by unfold ax_tknv; rw [if_pos h3, if_pos h29, if_neg (Bool.eq_false_iff.mp h51), if_neg h90] <;> rfl), rfl, rfl, rfl⟩ rfl rfl (dk ddX10_taken 50 rfl)
        · refine x_iconst C (v := nI 1) (dk ddX10_taken 47 rfl) (by decide) ?_
          refine x_goto C (tgt := 99) (dk ddX10_taken 48 rfl) (by decide) ?_
          exact x_iret C rfl ⟨(by unfold ax_tknv; rw [if_pos h3, if_pos h29, if_neg (Bool.eq_false_iff.mp h51), if_pos h90] <;> rfl), rfl, rfl, rfl⟩ rfl rfl (dk ddX10_taken 50 rfl)
      · refine x_bipush C (v := (-11)) (dk ddX10_taken 28 rfl) (by decide) ?_
        exact x_iret C rfl ⟨(by unfold ax_tknv; rw [if_pos h3, if_pos h29, if_pos h51] <;> rfl), rfl, rfl, rfl⟩ rfl rfl (dk ddX10_taken 29 rfl)
    · refine x_iload_n C (dk ddX10_taken 16 rfl) rfl ?_
      refine x_if_ne_n C (tgt := 38) (dk ddX10_taken 17 rfl) (by decide) (by decide) (fun h_ => absurd h_ (by decide)) (fun _ => ?_)
      refine x_iconst C (v := (-1)) (dk ddX10_taken 18 rfl) (by decide) ?_
      exact x_iret C rfl ⟨(by unfold ax_tknv; rw [if_pos h3, if_neg (Bool.eq_false_iff.mp h29)] <;> rfl), rfl, rfl, rfl⟩ rfl rfl (dk ddX10_taken 19 rfl)
  · have h3c := Int32.not_lt.mp h3
    refine x_iload_n C (dk ddX10_taken 3 rfl) rfl ?_
    refine x_bipush C (v := nI 12) (dk ddX10_taken 4 rfl) (by decide) ?_
    refine x_icmp_gt C (tgt := 16) (dk ddX10_taken 5 rfl) (by decide) (fun h9 => ?_) (fun h9 => ?_)
    · have h9c := Int32.not_le.mpr h9
      refine x_iconst C (v := nI 0) (dk ddX10_taken 8 rfl) (by decide) ?_
      refine x_istore_n C (lv' := [(3, .int (nI 0)), (0, .ref a), (1, .int (nI j)), (2, .int z)]) (dk ddX10_taken 9 rfl) (by decide) rfl ?_
      refine x_iload_n C (dk ddX10_taken 10 rfl) rfl ?_
      refine x_callS C (As := [.int (nI j)]) (k_X10_isShelf l D T o (d - 1) G I L (nI j)) mlX10_344 ⟨by show d - 1 + 1 ≤ d; omega, by show 40 * (d - 1 + 1) ≤ 40 * d; omega⟩ ⟨Nat.le_refl _, Nat.le_refl _⟩ rfl (Nat.le_of_ble_eq_true rfl) (dk ddX10_taken 11 rfl) ?_
      rintro v_ G_ I_ L_ ⟨rfl, rfl, rfl, rfl⟩
      rw [show (ax_rng (nI j) 4) = true from ax_rng_ok (h := 4) (by omega) (by decide)]
      refine x_if_eq_b C (tgt := 36) (dk ddX10_taken 12 rfl) (by decide) (fun h_ => absurd h_ (by decide)) (fun _ => ?_)
      refine x_iload_n C (dk ddX10_taken 13 rfl) rfl ?_
      refine x_callS C (As := [.int z]) (k_X10_isGroup l D T o (d - 1) G I L z) mlX10_98 ⟨by show d - 1 + 1 ≤ d; omega, by show 40 * (d - 1 + 1) ≤ 40 * d; omega⟩ ⟨Nat.le_refl _, Nat.le_refl _⟩ rfl (Nat.le_of_ble_eq_true rfl) (dk ddX10_taken 14 rfl) ?_
      rintro v_ G_ I_ L_ ⟨rfl, rfl, rfl, rfl⟩
      refine x_if_ne_b C (tgt := 38) (dk ddX10_taken 15 rfl) (by decide) (fun h29 => ?_) (fun h29 => ?_)
      · refine x_aload_n C (dk ddX10_taken 20 rfl) rfl ?_
        refine x_getr C flX10_52 rfl (by have h_ := hC.1; omega) hC.fld.1 (show ax_R G a 7 = some (a + 482) from hC.fld.2.2 (7, 482) (by decide)) (dk ddX10_taken 21 rfl) ?_
        refine x_iload_n C (dk ddX10_taken 22 rfl) rfl ?_
        refine x_aald6_n C hC.shelfs.1 hC.shelfs.2.1 hC.shelfs.2.2 (by omega) (by decide) (hC.shelf (k := j) (by omega)).1 (dk ddX10_taken 23 rfl) ?_
        refine x_astore C (lv' := [(4, .ref (a + (631 + 2 * j))), (3, .int (nI 0)), (0, .ref a), (1, .int (nI j)), (2, .int z)]) (dk ddX10_taken 24 rfl) (by decide) rfl ?_
        refine x_aload C (dk ddX10_taken 25 rfl) rfl ?_
        refine x_callV C (ci := 6) (As := []) (k_X6_isEmpty l D T o (d - 1) G I L (a + (631 + 2 * j)) (a + (632 + 2 * j)) (hC.shelf (k := j) (by omega)).2) mlX10_356 rfl rfl (hC.shelf (k := j) (by omega)).2.1 (hC.shelf (k := j) (by omega)).2.2.1 ⟨by show d - 1 + 1 ≤ d; omega, by show 40 * (d - 1 + 1) ≤ 40 * d; omega⟩ ⟨Nat.le_refl _, Nat.le_refl _⟩ rfl (Nat.le_of_ble_eq_true rfl) (dk ddX10_taken 26 rfl) ?_
        rintro v_ G_ I_ L_ ⟨rfl, rfl, rfl, rfl⟩
        refine x_if_eq_b C (tgt := 57) (dk ddX10_taken 27 rfl) (by decide) (fun h51 => ?_) (fun h51 => ?_)
        · refine x_iload_n C (dk ddX10_taken 30 rfl) rfl ?_
          refine x_if_eq_n C (tgt := 84) (dk ddX10_taken 31 rfl) (by decide) (by decide) (fun _ => ?_) (fun h_ => absurd h_ (by decide))
          refine x_aload C (dk ddX10_taken 43 rfl) rfl ?_
          refine x_geti C flX10_359 rfl (hC.shelf (k := j) (by omega)).2.1 (hC.shelf (k := j) (by omega)).2.2.1 (dk ddX10_taken 44 rfl) ?_
          refine x_iload_n C (dk ddX10_taken 45 rfl) rfl ?_
          refine x_icmp_ne C (tgt := 97) (dk ddX10_taken 46 rfl) (by decide) (fun h90 => ?_) (fun h90 => ?_)
          · refine x_bipush C (v := (-13)) (dk ddX10_taken 49 rfl) (by decide) ?_
            exact x_iret C rfl ⟨(by unfold ax_tknv; rw [if_neg h3, if_pos h9, if_pos h29, if_neg (Bool.eq_false_iff.mp h51), if_neg h90] <;> rfl), rfl, rfl, rfl⟩ rfl rfl (dk ddX10_taken 50 rfl)
          · refine x_iconst C (v := nI 1) (dk ddX10_taken 47 rfl) (by decide) ?_
            refine x_goto C (tgt := 99) (dk ddX10_taken 48 rfl) (by decide) ?_
            exact x_iret C rfl ⟨(by unfold ax_tknv; rw [if_neg h3, if_pos h9, if_pos h29, if_neg (Bool.eq_false_iff.mp h51), if_pos h90] <;> rfl), rfl, rfl, rfl⟩ rfl rfl (dk ddX10_taken 50 rfl)
        · refine x_bipush C (v := (-11)) (dk ddX10_taken 28 rfl) (by decide) ?_
          exact x_iret C rfl ⟨(by unfold ax_tknv; rw [if_neg h3, if_pos h9, if_pos h29, if_pos h51] <;> rfl), rfl, rfl, rfl⟩ rfl rfl (dk ddX10_taken 29 rfl)
      · refine x_iload_n C (dk ddX10_taken 16 rfl) rfl ?_
        refine x_if_ne_n C (tgt := 38) (dk ddX10_taken 17 rfl) (by decide) (by decide) (fun h_ => absurd h_ (by decide)) (fun _ => ?_)
        refine x_iconst C (v := (-1)) (dk ddX10_taken 18 rfl) (by decide) ?_
        exact x_iret C rfl ⟨(by unfold ax_tknv; rw [if_neg h3, if_pos h9, if_neg (Bool.eq_false_iff.mp h29)] <;> rfl), rfl, rfl, rfl⟩ rfl rfl (dk ddX10_taken 19 rfl)
    · have h9c := Int32.not_lt.mp h9
      refine x_iconst C (v := nI 1) (dk ddX10_taken 6 rfl) (by decide) ?_
      refine x_goto C (tgt := 17) (dk ddX10_taken 7 rfl) (by decide) ?_
      refine x_istore_n C (lv' := [(3, .int (nI 1)), (0, .ref a), (1, .int (nI j)), (2, .int z)]) (dk ddX10_taken 9 rfl) (by decide) rfl ?_
      refine x_iload_n C (dk ddX10_taken 10 rfl) rfl ?_
      refine x_callS C (As := [.int (nI j)]) (k_X10_isShelf l D T o (d - 1) G I L (nI j)) mlX10_344 ⟨by show d - 1 + 1 ≤ d; omega, by show 40 * (d - 1 + 1) ≤ 40 * d; omega⟩ ⟨Nat.le_refl _, Nat.le_refl _⟩ rfl (Nat.le_of_ble_eq_true rfl) (dk ddX10_taken 11 rfl) ?_
      rintro v_ G_ I_ L_ ⟨rfl, rfl, rfl, rfl⟩
      rw [show (ax_rng (nI j) 4) = true from ax_rng_ok (h := 4) (by omega) (by decide)]
      refine x_if_eq_b C (tgt := 36) (dk ddX10_taken 12 rfl) (by decide) (fun h_ => absurd h_ (by decide)) (fun _ => ?_)
      refine x_iload_n C (dk ddX10_taken 13 rfl) rfl ?_
      refine x_callS C (As := [.int z]) (k_X10_isGroup l D T o (d - 1) G I L z) mlX10_98 ⟨by show d - 1 + 1 ≤ d; omega, by show 40 * (d - 1 + 1) ≤ 40 * d; omega⟩ ⟨Nat.le_refl _, Nat.le_refl _⟩ rfl (Nat.le_of_ble_eq_true rfl) (dk ddX10_taken 14 rfl) ?_
      rintro v_ G_ I_ L_ ⟨rfl, rfl, rfl, rfl⟩
      refine x_if_ne_b C (tgt := 38) (dk ddX10_taken 15 rfl) (by decide) (fun h29 => ?_) (fun h29 => ?_)
      · refine x_aload_n C (dk ddX10_taken 20 rfl) rfl ?_
        refine x_getr C flX10_52 rfl (by have h_ := hC.1; omega) hC.fld.1 (show ax_R G a 7 = some (a + 482) from hC.fld.2.2 (7, 482) (by decide)) (dk ddX10_taken 21 rfl) ?_
        refine x_iload_n C (dk ddX10_taken 22 rfl) rfl ?_
        refine x_aald6_n C hC.shelfs.1 hC.shelfs.2.1 hC.shelfs.2.2 (by omega) (by decide) (hC.shelf (k := j) (by omega)).1 (dk ddX10_taken 23 rfl) ?_
        refine x_astore C (lv' := [(4, .ref (a + (631 + 2 * j))), (3, .int (nI 1)), (0, .ref a), (1, .int (nI j)), (2, .int z)]) (dk ddX10_taken 24 rfl) (by decide) rfl ?_
        refine x_aload C (dk ddX10_taken 25 rfl) rfl ?_
        refine x_callV C (ci := 6) (As := []) (k_X6_isEmpty l D T o (d - 1) G I L (a + (631 + 2 * j)) (a + (632 + 2 * j)) (hC.shelf (k := j) (by omega)).2) mlX10_356 rfl rfl (hC.shelf (k := j) (by omega)).2.1 (hC.shelf (k := j) (by omega)).2.2.1 ⟨by show d - 1 + 1 ≤ d; omega, by show 40 * (d - 1 + 1) ≤ 40 * d; omega⟩ ⟨Nat.le_refl _, Nat.le_refl _⟩ rfl (Nat.le_of_ble_eq_true rfl) (dk ddX10_taken 26 rfl) ?_
        rintro v_ G_ I_ L_ ⟨rfl, rfl, rfl, rfl⟩
        refine x_if_eq_b C (tgt := 57) (dk ddX10_taken 27 rfl) (by decide) (fun h51 => ?_) (fun h51 => ?_)
        · refine x_iload_n C (dk ddX10_taken 30 rfl) rfl ?_
          refine x_if_eq_n C (tgt := 84) (dk ddX10_taken 31 rfl) (by decide) (by decide) (fun h_ => absurd h_ (by decide)) (fun _ => ?_)
          refine x_aload C (dk ddX10_taken 32 rfl) rfl ?_
          refine x_geti C flX10_367 rfl (hC.shelf (k := j) (by omega)).2.1 (hC.shelf (k := j) (by omega)).2.2.1 (dk ddX10_taken 33 rfl) ?_
          refine x_iload_n C (dk ddX10_taken 34 rfl) rfl ?_
          refine x_bipush C (v := nI 10) (dk ddX10_taken 35 rfl) (by decide) ?_
          refine x_isub C (dk ddX10_taken 36 rfl) ?_
          refine x_icmp_ne C (tgt := 81) (dk ddX10_taken 37 rfl) (by decide) (fun h70 => ?_) (fun h70 => ?_)
          · refine x_bipush C (v := (-13)) (dk ddX10_taken 41 rfl) (by decide) ?_
            exact x_iret C rfl ⟨(by unfold ax_tknv; rw [if_neg h3, if_neg h9, if_neg (Bool.eq_false_iff.mp h51), if_neg h70] <;> rfl), rfl, rfl, rfl⟩ rfl rfl (dk ddX10_taken 42 rfl)
          · refine x_aload C (dk ddX10_taken 38 rfl) rfl ?_
            refine x_geti C flX10_368 rfl (hC.shelf (k := j) (by omega)).2.1 (hC.shelf (k := j) (by omega)).2.2.1 (dk ddX10_taken 39 rfl) ?_
            refine x_goto C (tgt := 83) (dk ddX10_taken 40 rfl) (by decide) ?_
            exact x_iret C rfl ⟨(by unfold ax_tknv; rw [if_neg h3, if_neg h9, if_neg (Bool.eq_false_iff.mp h51), if_pos h70] <;> rfl), rfl, rfl, rfl⟩ rfl rfl (dk ddX10_taken 42 rfl)
        · refine x_bipush C (v := (-11)) (dk ddX10_taken 28 rfl) (by decide) ?_
          exact x_iret C rfl ⟨(by unfold ax_tknv; rw [if_neg h3, if_neg h9, if_pos h51] <;> rfl), rfl, rfl, rfl⟩ rfl rfl (dk ddX10_taken 29 rfl)
      · refine x_iload_n C (dk ddX10_taken 16 rfl) rfl ?_
        refine x_if_ne_n C (tgt := 38) (dk ddX10_taken 17 rfl) (by decide) (by decide) (fun _ => ?_) (fun h_ => absurd h_ (by decide))
        refine x_aload_n C (dk ddX10_taken 20 rfl) rfl ?_
        refine x_getr C flX10_52 rfl (by have h_ := hC.1; omega) hC.fld.1 (show ax_R G a 7 = some (a + 482) from hC.fld.2.2 (7, 482) (by decide)) (dk ddX10_taken 21 rfl) ?_
        refine x_iload_n C (dk ddX10_taken 22 rfl) rfl ?_
        refine x_aald6_n C hC.shelfs.1 hC.shelfs.2.1 hC.shelfs.2.2 (by omega) (by decide) (hC.shelf (k := j) (by omega)).1 (dk ddX10_taken 23 rfl) ?_
        refine x_astore C (lv' := [(4, .ref (a + (631 + 2 * j))), (3, .int (nI 1)), (0, .ref a), (1, .int (nI j)), (2, .int z)]) (dk ddX10_taken 24 rfl) (by decide) rfl ?_
        refine x_aload C (dk ddX10_taken 25 rfl) rfl ?_
        refine x_callV C (ci := 6) (As := []) (k_X6_isEmpty l D T o (d - 1) G I L (a + (631 + 2 * j)) (a + (632 + 2 * j)) (hC.shelf (k := j) (by omega)).2) mlX10_356 rfl rfl (hC.shelf (k := j) (by omega)).2.1 (hC.shelf (k := j) (by omega)).2.2.1 ⟨by show d - 1 + 1 ≤ d; omega, by show 40 * (d - 1 + 1) ≤ 40 * d; omega⟩ ⟨Nat.le_refl _, Nat.le_refl _⟩ rfl (Nat.le_of_ble_eq_true rfl) (dk ddX10_taken 26 rfl) ?_
        rintro v_ G_ I_ L_ ⟨rfl, rfl, rfl, rfl⟩
        refine x_if_eq_b C (tgt := 57) (dk ddX10_taken 27 rfl) (by decide) (fun h51 => ?_) (fun h51 => ?_)
        · refine x_iload_n C (dk ddX10_taken 30 rfl) rfl ?_
          refine x_if_eq_n C (tgt := 84) (dk ddX10_taken 31 rfl) (by decide) (by decide) (fun h_ => absurd h_ (by decide)) (fun _ => ?_)
          refine x_aload C (dk ddX10_taken 32 rfl) rfl ?_
          refine x_geti C flX10_367 rfl (hC.shelf (k := j) (by omega)).2.1 (hC.shelf (k := j) (by omega)).2.2.1 (dk ddX10_taken 33 rfl) ?_
          refine x_iload_n C (dk ddX10_taken 34 rfl) rfl ?_
          refine x_bipush C (v := nI 10) (dk ddX10_taken 35 rfl) (by decide) ?_
          refine x_isub C (dk ddX10_taken 36 rfl) ?_
          refine x_icmp_ne C (tgt := 81) (dk ddX10_taken 37 rfl) (by decide) (fun h70 => ?_) (fun h70 => ?_)
          · refine x_bipush C (v := (-13)) (dk ddX10_taken 41 rfl) (by decide) ?_
            exact x_iret C rfl ⟨(by unfold ax_tknv; rw [if_neg h3, if_neg h9, if_neg (Bool.eq_false_iff.mp h51), if_neg h70] <;> rfl), rfl, rfl, rfl⟩ rfl rfl (dk ddX10_taken 42 rfl)
          · refine x_aload C (dk ddX10_taken 38 rfl) rfl ?_
            refine x_geti C flX10_368 rfl (hC.shelf (k := j) (by omega)).2.1 (hC.shelf (k := j) (by omega)).2.2.1 (dk ddX10_taken 39 rfl) ?_
            refine x_goto C (tgt := 83) (dk ddX10_taken 40 rfl) (by decide) ?_
            exact x_iret C rfl ⟨(by unfold ax_tknv; rw [if_neg h3, if_neg h9, if_neg (Bool.eq_false_iff.mp h51), if_pos h70] <;> rfl), rfl, rfl, rfl⟩ rfl rfl (dk ddX10_taken 42 rfl)
        · refine x_bipush C (v := (-11)) (dk ddX10_taken 28 rfl) (by decide) ?_
          exact x_iret C rfl ⟨(by unfold ax_tknv; rw [if_neg h3, if_neg h9, if_pos h51] <;> rfl), rfl, rfl, rfl⟩ rfl rfl (dk ddX10_taken 29 rfl)
set_option maxRecDepth 20000 in
/-- again, nothing kept -/
theorem k_X10_again_no (l : Launch) (D : va_G) (T : Nat → ClassId) (o d : Nat) (G : ax_G) (I : ax_I) (L : ax_L) (a : Nat) (hC : ax_Cls G a) (hk : I a 2 = nI 0) (hd : 3 ≤ d) : ax_Con l D T o yX10_again cX10_again 1 (some .int) d 0 0 [.ref a] G I L (fun zz G' I' L' => zz = some (.int ((-3))) ∧ G = G' ∧ I = I' ∧ L = L') := by
  refine ax_enter (by decide +kernel) (Nat.le_of_ble_eq_true rfl) ?_
  intro p_ e_ s_ m_ args_ below_ meth_ c_ C _
  refine x_lvs (lv' := [(0, .ref a)]) rfl ?_
  refine x_aload_n C (dk ddX10_again 0 rfl) rfl ?_
  refine x_geti C flX10_19 rfl (by have h_ := hC.1; omega) hC.fld.1 (dk ddX10_again 1 rfl) ?_
  rw [show (I a 2) = nI 0 from hk]
  refine x_if_ne_n C (tgt := 10) (dk ddX10_again 2 rfl) (by decide) (by decide) (fun h_ => absurd h_ (by decide)) (fun _ => ?_)
  refine x_bipush C (v := (-3)) (dk ddX10_again 3 rfl) (by decide) ?_
  exact x_iret C rfl ⟨rfl, rfl, rfl, rfl⟩ rfl rfl (dk ddX10_again 4 rfl)
set_option maxRecDepth 20000 in
/-- again() -/
theorem k_X10_again (l : Launch) (D : va_G) (T : Nat → ClassId) (o d : Nat) (G : ax_G) (I : ax_I) (L : ax_L) (a : Nat) (hC : ax_Cls G a) (hk : I a 2 = nI 1) (hd : 3 ≤ d) : ax_Con l D T o yX10_again cX10_again 1 (some .int) d 0 0 [.ref a] G I L (fun zz G' I' L' => zz = some (.int (nI (ax_cm ((ax_u (ax_sc (a + 15) (a + 1) I) (a + 29) 2 (nI 0)) (a + 1 + 4)) 8))) ∧ G = G' ∧ (ax_u (ax_sc (a + 15) (a + 1) I) (a + 29) 2 (nI 0)) = I' ∧ L = L') := by
  refine ax_enter (by decide +kernel) (Nat.le_of_ble_eq_true rfl) ?_
  intro p_ e_ s_ m_ args_ below_ meth_ c_ C _
  refine x_lvs (lv' := [(0, .ref a)]) rfl ?_
  refine x_aload_n C (dk ddX10_again 0 rfl) rfl ?_
  refine x_geti C flX10_19 rfl (by have h_ := hC.1; omega) hC.fld.1 (dk ddX10_again 1 rfl) ?_
  rw [show (I a 2) = nI 1 from hk]
  refine x_if_ne_n C (tgt := 10) (dk ddX10_again 2 rfl) (by decide) (by decide) (fun _ => ?_) (fun h_ => absurd h_ (by decide))
  refine x_aload_n C (dk ddX10_again 5 rfl) rfl ?_
  refine x_getr C flX10_10 rfl (by have h_ := hC.1; omega) hC.fld.1 (show ax_R G a 0 = some (a + 1) from hC.fld.2.2 (0, 1) (by decide)) (dk ddX10_again 6 rfl) ?_
  refine x_aload_n C (dk ddX10_again 7 rfl) rfl ?_
  refine x_getr C flX10_16 rfl (by have h_ := hC.1; omega) hC.fld.1 (show ax_R G a 1 = some (a + 15) from hC.fld.2.2 (1, 15) (by decide)) (dk ddX10_again 8 rfl) ?_
  refine x_callV C (ci := 7) (As := [.ref (a + 15)]) (k_X7_becomeAs l D T o (d - 1) G I L (a + 1) (a + 15) hC.state hC.kept (by omega)) mlX10_379 rfl rfl (by have h_ := hC.state.1; omega) (show ax_K G (a + 1) = 8 + 7 from (hC.state.2 0 _ rfl).1) ⟨by show d - 1 + 1 ≤ d; omega, by show 40 * (d - 1 + 1) ≤ 40 * d; omega⟩ ⟨Nat.le_refl _, Nat.le_refl _⟩ rfl (Nat.le_of_ble_eq_true rfl) (dk ddX10_again 9 rfl) ?_
  rintro v_ G_ I_ L_ ⟨rfl, rfl, rfl, rfl⟩
  refine x_aload_n C (dk ddX10_again 10 rfl) rfl ?_
  refine x_getr C flX10_26 rfl (by have h_ := hC.1; omega) hC.fld.1 (show ax_R G a 3 = some (a + 29) from hC.fld.2.2 (3, 29) (by decide)) (dk ddX10_again 11 rfl) ?_
  refine x_callV C (ci := 1) (As := []) (k_X1_forget l D T o (d - 1) G (ax_sc (a + 15) (a + 1) I) L (a + 29) (by have h_ := hC.1; omega) (show ax_K G (a + 29) = 8 + 1 from (hC.history.2 0 _ rfl).1)) mlX10_382 rfl rfl (by have h_ := hC.1; omega) (show ax_K G (a + 29) = 8 + 1 from (hC.history.2 0 _ rfl).1) ⟨by show d - 1 + 1 ≤ d; omega, by show 40 * (d - 1 + 1) ≤ 40 * d; omega⟩ ⟨Nat.le_refl _, Nat.le_refl _⟩ rfl (Nat.le_of_ble_eq_true rfl) (dk ddX10_again 12 rfl) ?_
  rintro v_ G_ I_ L_ ⟨rfl, rfl, rfl, rfl⟩
  refine x_aload_n C (dk ddX10_again 13 rfl) rfl ?_
  refine x_getr C flX10_10 rfl (by have h_ := hC.1; omega) hC.fld.1 (show ax_R G a 0 = some (a + 1) from hC.fld.2.2 (0, 1) (by decide)) (dk ddX10_again 14 rfl) ?_
  refine x_callV C (ci := 7) (As := []) (k_X7_countMaps l D T o (d - 1) G (ax_u (ax_sc (a + 15) (a + 1) I) (a + 29) 2 (nI 0)) L (a + 1) hC.state (by omega)) mlX10_373 rfl rfl (by have h_ := hC.state.1; omega) (show ax_K G (a + 1) = 8 + 7 from (hC.state.2 0 _ rfl).1) ⟨by show d - 1 + 1 ≤ d; omega, by show 40 * (d - 1 + 1) ≤ 40 * d; omega⟩ ⟨Nat.le_refl _, Nat.le_refl _⟩ rfl (Nat.le_of_ble_eq_true rfl) (dk ddX10_again 15 rfl) ?_
  rintro v_ G_ I_ L_ ⟨rfl, rfl, rfl, rfl⟩
  exact x_iret C rfl ⟨rfl, rfl, rfl, rfl⟩ rfl rfl (dk ddX10_again 16 rfl)
