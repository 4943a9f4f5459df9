/-! ===== the class: groups, changes ===== -/
set_option maxRecDepth 20000 in
/-- groupIs, refused -/
theorem k_X10_groupIs_bad (l : Launch) (D : va_G) (T : Nat → ClassId) (o d : Nat) (G : ax_G) (I : ax_I) (L : ax_L) (a : Nat) (g u : Int32) (hC : ax_Cls G a) (hbad : ax_rng g 6 = false) (hd : 3 ≤ d) : ax_Con l D T o yX10_groupIs cX10_groupIs 3 (some .int) d 0 0 [.ref a, .int g, .int u] G I L (fun zz G' I' L' => zz = some (.int ((-1))) ∧ G = G' ∧ I = I' ∧ L = L') := by
  refine ax_enter (by decide +kernel) (Nat.le_of_ble_eq_true rfl) ?_
  intro p_ e_ s_ m_ args_ below_ meth_ c_ C _
  refine x_lvs (lv' := [(0, .ref a), (1, .int g), (2, .int u)]) rfl ?_
  refine x_iload_n C (dk ddX10_groupIs 0 rfl) rfl ?_
  refine x_callS C (As := [.int g]) (k_X10_isGroup l D T o (d - 1) G I L g) mlX10_98 ⟨by show d - 1 + 1 ≤ d; omega, by show 40 * (d - 1 + 1) ≤ 40 * d; omega⟩ ⟨Nat.le_refl _, Nat.le_refl _⟩ rfl (Nat.le_of_ble_eq_true rfl) (dk ddX10_groupIs 1 rfl) ?_
  rintro v_ G_ I_ L_ ⟨rfl, rfl, rfl, rfl⟩
  refine x_if_ne_b C (tgt := 9) (dk ddX10_groupIs 2 rfl) (by decide) (fun h4 => ?_) (fun h4 => ?_)
  · exfalso
    first | exact absurd hbad (by assumption) | (simp_all; done)
  · refine x_iconst C (v := (-1)) (dk ddX10_groupIs 3 rfl) (by decide) ?_
    exact x_iret C rfl ⟨rfl, rfl, rfl, rfl⟩ rfl rfl (dk ddX10_groupIs 4 rfl)
set_option maxRecDepth 20000 in
/-- groupIs of what is none -/
theorem k_X10_groupIs_out (l : Launch) (D : va_G) (T : Nat → ClassId) (o d : Nat) (G : ax_G) (I : ax_I) (L : ax_L) (a g : Nat) (u : Int32) (hC : ax_Cls G a) (hg : g < 6) (hu : u.toInt < 0 ∨ 3 < u.toInt) (hd : 3 ≤ d) : ax_Con l D T o yX10_groupIs cX10_groupIs 3 (some .int) d 0 0 [.ref a, .int (nI g), .int u] G I L (fun zz G' I' L' => zz = some (.int ((-1))) ∧ G = G' ∧ I = I' ∧ L = L') := by
  refine ax_enter (by decide +kernel) (Nat.le_of_ble_eq_true rfl) ?_
  intro p_ e_ s_ m_ args_ below_ meth_ c_ C _
  refine x_lvs (lv' := [(0, .ref a), (1, .int (nI g)), (2, .int u)]) rfl ?_
  refine x_iload_n C (dk ddX10_groupIs 0 rfl) rfl ?_
  refine x_callS C (As := [.int (nI g)]) (k_X10_isGroup l D T o (d - 1) G I L (nI g)) mlX10_98 ⟨by show d - 1 + 1 ≤ d; omega, by show 40 * (d - 1 + 1) ≤ 40 * d; omega⟩ ⟨Nat.le_refl _, Nat.le_refl _⟩ rfl (Nat.le_of_ble_eq_true rfl) (dk ddX10_groupIs 1 rfl) ?_
  rintro v_ G_ I_ L_ ⟨rfl, rfl, rfl, rfl⟩
  rw [show (ax_rng (nI g) 6) = true from ax_rng_ok (h := 6) (by omega) (by decide)]
  refine x_if_ne_b C (tgt := 9) (dk ddX10_groupIs 2 rfl) (by decide) (fun _ => ?_) (fun h_ => absurd h_ (by decide))
  refine x_iload_n C (dk ddX10_groupIs 5 rfl) rfl ?_
  refine x_tableOut C (tgt := 98) (dk ddX10_groupIs 6 rfl) hu (by decide) ?_
  refine x_iconst C (v := (-1)) (dk ddX10_groupIs 39 rfl) (by decide) ?_
  exact x_iret C rfl ⟨rfl, rfl, rfl, rfl⟩ rfl rfl (dk ddX10_groupIs 40 rfl)
set_option maxRecDepth 20000 in
/-- groupIs(g, 0) -/
theorem k_X10_groupIs_0 (l : Launch) (D : va_G) (T : Nat → ClassId) (o d : Nat) (G : ax_G) (I : ax_I) (L : ax_L) (a g : Nat) (gn gc : Nat → Nat) (hC : ax_Cls G a) (hgn : ∀ g, g < 6 → I (a + 1 + 1) g = nI (gn g) ∧ gn g ≤ 3) (hgc : ∀ g, g < 6 → I (a + 1 + 2) g = nI (gc g) ∧ gc g ≤ 4) (hg : g < 6) (hd : 6 ≤ d) : ax_Con l D T o yX10_groupIs cX10_groupIs 3 (some .int) d 0 0 [.ref a, .int (nI g), .int (nI 0)] G I L (fun zz G' I' L' => zz = some (.int (nI (gn g))) ∧ G = G' ∧ I = I' ∧ L = L') := by
  refine ax_enter (by decide +kernel) (Nat.le_of_ble_eq_true rfl) ?_
  intro p_ e_ s_ m_ args_ below_ meth_ c_ C _
  refine x_lvs (lv' := [(0, .ref a), (1, .int (nI g)), (2, .int (nI 0))]) rfl ?_
  refine x_iload_n C (dk ddX10_groupIs 0 rfl) rfl ?_
  refine x_callS C (As := [.int (nI g)]) (k_X10_isGroup l D T o (d - 1) G I L (nI g)) mlX10_98 ⟨by show d - 1 + 1 ≤ d; omega, by show 40 * (d - 1 + 1) ≤ 40 * d; omega⟩ ⟨Nat.le_refl _, Nat.le_refl _⟩ rfl (Nat.le_of_ble_eq_true rfl) (dk ddX10_groupIs 1 rfl) ?_
  rintro v_ G_ I_ L_ ⟨rfl, rfl, rfl, rfl⟩
  rw [show (ax_rng (nI g) 6) = true from ax_rng_ok (h := 6) (by omega) (by decide)]
  refine x_if_ne_b C (tgt := 9) (dk ddX10_groupIs 2 rfl) (by decide) (fun _ => ?_) (fun h_ => absurd h_ (by decide))
  refine x_iload_n C (dk ddX10_groupIs 5 rfl) rfl ?_
  refine x_tableIn C (off := 30) (tgt := 40) (dk ddX10_groupIs 6 rfl) (by decide) (by decide) (by decide) (by decide) ?_
  refine x_aload_n C (dk ddX10_groupIs 7 rfl) rfl ?_
  refine x_getr C flX10_10 rfl (by have h_ := hC.1; omega) hC.fld.1 (show ax_R G a 0 = some (a + 1) from hC.fld.2.2 (0, 1) (by decide)) (dk ddX10_groupIs 8 rfl) ?_
  refine x_getr C flX10_106 rfl (by have h_ := hC.state.1; omega) (show ax_K G (a + 1) = 8 + 7 from (hC.state.2 0 _ rfl).1) (show ax_R G (a + 1) 0 = some (a + 1 + 1) from (hC.state.2 0 _ rfl).2.2 (0, 1) (by decide)) (dk ddX10_groupIs 9 rfl) ?_
  refine x_iload_n C (dk ddX10_groupIs 10 rfl) rfl ?_
  refine x_iald_n C (by have h_ := hC.state.1; omega) (show ax_K G (a + 1 + 1) = 0 from (hC.state.2 1 _ rfl).1) (show ax_N G (a + 1 + 1) = 6 from (hC.state.2 1 _ rfl).2.1) (by omega) (by decide) (dk ddX10_groupIs 11 rfl) ?_
  rw [show (I (a + 1 + 1) g) = nI (gn g) from (by repeat (first | exact ax_u_at _ _ _ _ | exact (hgn g (by omega)).1 | rw [ax_u_ne (by omega)] | rw [ax_u_nj (by decide)] | rw [ax_sc_ne (by omega)] | unfold ax_ldI | unfold ax_woI | unfold ax_rxI | unfold ax_frI0 | unfold ax_frI1 | unfold ax_frI2 | rw [hI_ _ (by omega)] | rw [hN_ (by omega)]))]
  exact x_iret C rfl ⟨rfl, rfl, rfl, rfl⟩ rfl rfl (dk ddX10_groupIs 12 rfl)
set_option maxRecDepth 20000 in
/-- groupIs(g, 1) -/
theorem k_X10_groupIs_1 (l : Launch) (D : va_G) (T : Nat → ClassId) (o d : Nat) (G : ax_G) (I : ax_I) (L : ax_L) (a g : Nat) (gn gc : Nat → Nat) (hC : ax_Cls G a) (hgn : ∀ g, g < 6 → I (a + 1 + 1) g = nI (gn g) ∧ gn g ≤ 3) (hgc : ∀ g, g < 6 → I (a + 1 + 2) g = nI (gc g) ∧ gc g ≤ 4) (hg : g < 6) (hd : 6 ≤ d) : ax_Con l D T o yX10_groupIs cX10_groupIs 3 (some .int) d 0 0 [.ref a, .int (nI g), .int (nI 1)] G I L (fun zz G' I' L' => zz = some (.int (nI (gc g))) ∧ G = G' ∧ I = I' ∧ L = L') := by
  refine ax_enter (by decide +kernel) (Nat.le_of_ble_eq_true rfl) ?_
  intro p_ e_ s_ m_ args_ below_ meth_ c_ C _
  refine x_lvs (lv' := [(0, .ref a), (1, .int (nI g)), (2, .int (nI 1))]) rfl ?_
  refine x_iload_n C (dk ddX10_groupIs 0 rfl) rfl ?_
  refine x_callS C (As := [.int (nI g)]) (k_X10_isGroup l D T o (d - 1) G I L (nI g)) mlX10_98 ⟨by show d - 1 + 1 ≤ d; omega, by show 40 * (d - 1 + 1) ≤ 40 * d; omega⟩ ⟨Nat.le_refl _, Nat.le_refl _⟩ rfl (Nat.le_of_ble_eq_true rfl) (dk ddX10_groupIs 1 rfl) ?_
  rintro v_ G_ I_ L_ ⟨rfl, rfl, rfl, rfl⟩
  rw [show (ax_rng (nI g) 6) = true from ax_rng_ok (h := 6) (by omega) (by decide)]
  refine x_if_ne_b C (tgt := 9) (dk ddX10_groupIs 2 rfl) (by decide) (fun _ => ?_) (fun h_ => absurd h_ (by decide))
  refine x_iload_n C (dk ddX10_groupIs 5 rfl) rfl ?_
  refine x_tableIn C (off := 40) (tgt := 50) (dk ddX10_groupIs 6 rfl) (by decide) (by decide) (by decide) (by decide) ?_
  refine x_aload_n C (dk ddX10_groupIs 13 rfl) rfl ?_
  refine x_getr C flX10_10 rfl (by have h_ := hC.1; omega) hC.fld.1 (show ax_R G a 0 = some (a + 1) from hC.fld.2.2 (0, 1) (by decide)) (dk ddX10_groupIs 14 rfl) ?_
  refine x_getr C flX10_118 rfl (by have h_ := hC.state.1; omega) (show ax_K G (a + 1) = 8 + 7 from (hC.state.2 0 _ rfl).1) (show ax_R G (a + 1) 1 = some (a + 1 + 2) from (hC.state.2 0 _ rfl).2.2 (1, 2) (by decide)) (dk ddX10_groupIs 15 rfl) ?_
  refine x_iload_n C (dk ddX10_groupIs 16 rfl) rfl ?_
  refine x_iald_n C (by have h_ := hC.state.1; omega) (show ax_K G (a + 1 + 2) = 0 from (hC.state.2 2 _ rfl).1) (show ax_N G (a + 1 + 2) = 6 from (hC.state.2 2 _ rfl).2.1) (by omega) (by decide) (dk ddX10_groupIs 17 rfl) ?_
  rw [show (I (a + 1 + 2) g) = nI (gc g) from (by repeat (first | exact ax_u_at _ _ _ _ | exact (hgc g (by omega)).1 | rw [ax_u_ne (by omega)] | rw [ax_u_nj (by decide)] | rw [ax_sc_ne (by omega)] | unfold ax_ldI | unfold ax_woI | unfold ax_rxI | unfold ax_frI0 | unfold ax_frI1 | unfold ax_frI2 | rw [hI_ _ (by omega)] | rw [hN_ (by omega)]))]
  exact x_iret C rfl ⟨rfl, rfl, rfl, rfl⟩ rfl rfl (dk ddX10_groupIs 18 rfl)
def ax_gi2 (I : ax_I) (L : ax_L) (a : Nat) (g : Nat) (gn : Nat → Nat) (gc : Nat → Nat) : Int32 := nI (ax_cn ((ax_wrL I L a g (a + 616) gn gc) (a + 616)) (gn g))
set_option maxRecDepth 20000 in
/-- groupIs(g, 2) -/
theorem k_X10_groupIs_2 (l : Launch) (D : va_G) (T : Nat → ClassId) (o d : Nat) (G : ax_G) (I : ax_I) (L : ax_L) (a g : Nat) (gn gc : Nat → Nat) (hC : ax_Cls G a) (hgn : ∀ g, g < 6 → I (a + 1 + 1) g = nI (gn g) ∧ gn g ≤ 3) (hgc : ∀ g, g < 6 → I (a + 1 + 2) g = nI (gc g) ∧ gc g ≤ 4) (hg : g < 6) (hd : 6 ≤ d) : ax_Con l D T o yX10_groupIs cX10_groupIs 3 (some .int) d 0 0 [.ref a, .int (nI g), .int (nI 2)] G I L (fun zz G' I' L' => zz = some (.int (ax_gi2 I L a g gn gc)) ∧ G = G' ∧ (ax_wrI I a g (a + 615) gn) = I' ∧ (ax_wrL I L a g (a + 616) gn gc) = L') := by
  refine ax_enter (by decide +kernel) (Nat.le_of_ble_eq_true rfl) ?_
  intro p_ e_ s_ m_ args_ below_ meth_ c_ C _
  refine x_lvs (lv' := [(0, .ref a), (1, .int (nI g)), (2, .int (nI 2))]) rfl ?_
  refine x_iload_n C (dk ddX10_groupIs 0 rfl) rfl ?_
  refine x_callS C (As := [.int (nI g)]) (k_X10_isGroup l D T o (d - 1) G I L (nI g)) mlX10_98 ⟨by show d - 1 + 1 ≤ d; omega, by show 40 * (d - 1 + 1) ≤ 40 * d; omega⟩ ⟨Nat.le_refl _, Nat.le_refl _⟩ rfl (Nat.le_of_ble_eq_true rfl) (dk ddX10_groupIs 1 rfl) ?_
  rintro v_ G_ I_ L_ ⟨rfl, rfl, rfl, rfl⟩
  rw [show (ax_rng (nI g) 6) = true from ax_rng_ok (h := 6) (by omega) (by decide)]
  refine x_if_ne_b C (tgt := 9) (dk ddX10_groupIs 2 rfl) (by decide) (fun _ => ?_) (fun h_ => absurd h_ (by decide))
  refine x_iload_n C (dk ddX10_groupIs 5 rfl) rfl ?_
  refine x_tableIn C (off := 50) (tgt := 60) (dk ddX10_groupIs 6 rfl) (by decide) (by decide) (by decide) (by decide) ?_
  refine x_aload_n C (dk ddX10_groupIs 19 rfl) rfl ?_
  refine x_iload_n C (dk ddX10_groupIs 20 rfl) rfl ?_
  refine x_aload_n C (dk ddX10_groupIs 21 rfl) rfl ?_
  refine x_getr C flX10_79 rfl (by have h_ := hC.1; omega) hC.fld.1 (show ax_R G a 12 = some (a + 615) from hC.fld.2.2 (12, 615) (by decide)) (dk ddX10_groupIs 22 rfl) ?_
  refine x_callV C (ci := 10) (As := [.int (nI g), .ref (a + 615)]) (k_X10_workOutRings l D T o (d - 1) G I L a g (a + 615) (a + 616) gn gc hC (fun g hg => ⟨(by repeat (first | exact ax_u_at _ _ _ _ | exact (hgn g hg).1 | rw [ax_u_ne (by omega)] | rw [ax_u_nj (by decide)] | rw [ax_sc_ne (by omega)] | unfold ax_wrI | unfold ax_ldI | unfold ax_woI | unfold ax_rxI | unfold ax_frI0 | unfold ax_frI1 | unfold ax_frI2 | rw [hI_ _ (by omega)] | rw [hN_ (by omega)])), (hgn g hg).2⟩) (fun g hg => ⟨(by repeat (first | exact ax_u_at _ _ _ _ | exact (hgc g hg).1 | rw [ax_u_ne (by omega)] | rw [ax_u_nj (by decide)] | rw [ax_sc_ne (by omega)] | unfold ax_wrI | unfold ax_ldI | unfold ax_woI | unfold ax_rxI | unfold ax_frI0 | unfold ax_frI1 | unfold ax_frI2 | rw [hI_ _ (by omega)] | rw [hN_ (by omega)])), (hgc g hg).2⟩) (by omega) hC.rings (by omega) (by omega)) mlX10_129 rfl rfl (by have h_ := hC.1; omega) hC.fld.1 ⟨by show d - 1 + 1 ≤ d; omega, by show 40 * (d - 1 + 1) ≤ 40 * d; omega⟩ ⟨Nat.le_refl _, Nat.le_refl _⟩ rfl (Nat.le_of_ble_eq_true rfl) (dk ddX10_groupIs 23 rfl) ?_
  rintro v_ G_ I_ L_ ⟨rfl, rfl, rfl, rfl⟩
  refine x_aload_n C (dk ddX10_groupIs 24 rfl) rfl ?_
  refine x_getr C flX10_79 rfl (by have h_ := hC.1; omega) hC.fld.1 (show ax_R G a 12 = some (a + 615) from hC.fld.2.2 (12, 615) (by decide)) (dk ddX10_groupIs 25 rfl) ?_
  refine x_callV C (ci := 4) (As := []) (k_X4_countOwn l D T o (d - 1) G (ax_wrI I a g (a + 615) gn) (ax_wrL I L a g (a + 616) gn gc) (a + 615) (a + 616) (gn g) hC.rings (by repeat (first | exact ax_u_at _ _ _ _ | rw [ax_u_ne (by omega)] | rw [ax_u_nj (by decide)] | rw [ax_sc_ne (by omega)] | unfold ax_wrI | unfold ax_ldI | unfold ax_woI | unfold ax_rxI | unfold ax_frI0 | unfold ax_frI1 | unfold ax_frI2 | rw [hI_ _ (by omega)] | rw [hN_ (by omega)])) (Nat.le_trans (hgn g (by omega)).2 (by decide))) mlX10_133 rfl rfl hC.rings.1 hC.rings.2.1 ⟨by show d - 1 + 1 ≤ d; omega, by show 40 * (d - 1 + 1) ≤ 40 * d; omega⟩ ⟨Nat.le_refl _, Nat.le_refl _⟩ rfl (Nat.le_of_ble_eq_true rfl) (dk ddX10_groupIs 26 rfl) ?_
  rintro v_ G_ I_ L_ ⟨rfl, rfl, rfl, rfl⟩
  exact x_iret C rfl ⟨rfl, rfl, rfl, rfl⟩ rfl rfl (dk ddX10_groupIs 27 rfl)
def ax_gi3 (I : ax_I) (L : ax_L) (a : Nat) (g : Nat) (gn : Nat → Nat) (gc : Nat → Nat) : Int32 := (ax_ixp (a + 597) (ax_nth I (a + 1) (a + 597) g (gn g) (gc g) L) (gn g)).toInt32
set_option maxRecDepth 20000 in
/-- groupIs(g, 3) -/
theorem k_X10_groupIs_3 (l : Launch) (D : va_G) (T : Nat → ClassId) (o d : Nat) (G : ax_G) (I : ax_I) (L : ax_L) (a g : Nat) (gn gc : Nat → Nat) (hC : ax_Cls G a) (hgn : ∀ g, g < 6 → I (a + 1 + 1) g = nI (gn g) ∧ gn g ≤ 3) (hgc : ∀ g, g < 6 → I (a + 1 + 2) g = nI (gc g) ∧ gc g ≤ 4) (hg : g < 6) (hd : 6 ≤ d) : ax_Con l D T o yX10_groupIs cX10_groupIs 3 (some .int) d 0 0 [.ref a, .int (nI g), .int (nI 3)] G I L (fun zz G' I' L' => zz = some (.int (ax_gi3 I L a g gn gc)) ∧ G = G' ∧ (ax_u I (a + 597) 2 (nI (gn g))) = I' ∧ (ax_nth I (a + 1) (a + 597) g (gn g) (gc g) L) = L') := by
  refine ax_enter (by decide +kernel) (Nat.le_of_ble_eq_true rfl) ?_
  intro p_ e_ s_ m_ args_ below_ meth_ c_ C _
  refine x_lvs (lv' := [(0, .ref a), (1, .int (nI g)), (2, .int (nI 3))]) rfl ?_
  refine x_iload_n C (dk ddX10_groupIs 0 rfl) rfl ?_
  refine x_callS C (As := [.int (nI g)]) (k_X10_isGroup l D T o (d - 1) G I L (nI g)) mlX10_98 ⟨by show d - 1 + 1 ≤ d; omega, by show 40 * (d - 1 + 1) ≤ 40 * d; omega⟩ ⟨Nat.le_refl _, Nat.le_refl _⟩ rfl (Nat.le_of_ble_eq_true rfl) (dk ddX10_groupIs 1 rfl) ?_
  rintro v_ G_ I_ L_ ⟨rfl, rfl, rfl, rfl⟩
  rw [show (ax_rng (nI g) 6) = true from ax_rng_ok (h := 6) (by omega) (by decide)]
  refine x_if_ne_b C (tgt := 9) (dk ddX10_groupIs 2 rfl) (by decide) (fun _ => ?_) (fun h_ => absurd h_ (by decide))
  refine x_iload_n C (dk ddX10_groupIs 5 rfl) rfl ?_
  refine x_tableIn C (off := 67) (tgt := 77) (dk ddX10_groupIs 6 rfl) (by decide) (by decide) (by decide) (by decide) ?_
  refine x_aload_n C (dk ddX10_groupIs 28 rfl) rfl ?_
  refine x_getr C flX10_10 rfl (by have h_ := hC.1; omega) hC.fld.1 (show ax_R G a 0 = some (a + 1) from hC.fld.2.2 (0, 1) (by decide)) (dk ddX10_groupIs 29 rfl) ?_
  refine x_iload_n C (dk ddX10_groupIs 30 rfl) rfl ?_
  refine x_aload_n C (dk ddX10_groupIs 31 rfl) rfl ?_
  refine x_getr C flX10_69 rfl (by have h_ := hC.1; omega) hC.fld.1 (show ax_R G a 10 = some (a + 597) from hC.fld.2.2 (10, 597) (by decide)) (dk ddX10_groupIs 32 rfl) ?_
  refine x_callV C (ci := 7) (As := [.int (nI g), .ref (a + 597)]) (k_X7_fill l D T o (d - 1) G I L (a + 1) g (a + 597) (gn g) (gc g) hC.state hC.nothing (by omega) (by omega) (by repeat (first | exact ax_u_at _ _ _ _ | exact (hgn g (by omega)).1 | rw [ax_u_ne (by omega)] | rw [ax_u_nj (by decide)] | rw [ax_sc_ne (by omega)] | unfold ax_ldI | unfold ax_woI | unfold ax_rxI | unfold ax_frI0 | unfold ax_frI1 | unfold ax_frI2 | rw [hI_ _ (by omega)] | rw [hN_ (by omega)])) (hgn g (by omega)).2 (by repeat (first | exact ax_u_at _ _ _ _ | exact (hgc g (by omega)).1 | rw [ax_u_ne (by omega)] | rw [ax_u_nj (by decide)] | rw [ax_sc_ne (by omega)] | unfold ax_ldI | unfold ax_woI | unfold ax_rxI | unfold ax_frI0 | unfold ax_frI1 | unfold ax_frI2 | rw [hI_ _ (by omega)] | rw [hN_ (by omega)])) (hgc g (by omega)).2 (by omega)) mlX10_137 rfl rfl (by have h_ := hC.state.1; omega) (show ax_K G (a + 1) = 8 + 7 from (hC.state.2 0 _ rfl).1) ⟨by show d - 1 + 1 ≤ d; omega, by show 40 * (d - 1 + 1) ≤ 40 * d; omega⟩ ⟨Nat.le_refl _, Nat.le_refl _⟩ rfl (Nat.le_of_ble_eq_true rfl) (dk ddX10_groupIs 33 rfl) ?_
  rintro v_ G_ I_ L_ ⟨rfl, rfl, rfl, rfl⟩
  refine x_aload_n C (dk ddX10_groupIs 34 rfl) rfl ?_
  refine x_getr C flX10_69 rfl (by have h_ := hC.1; omega) hC.fld.1 (show ax_R G a 10 = some (a + 597) from hC.fld.2.2 (10, 597) (by decide)) (dk ddX10_groupIs 35 rfl) ?_
  refine x_callV C (ci := 2) (As := []) (k_X2_index l D T o (d - 1) G (ax_u I (a + 597) 2 (nI (gn g))) (ax_nth I (a + 1) (a + 597) g (gn g) (gc g) L) (a + 597) (gn g) hC.nothing (by repeat (first | exact ax_u_at _ _ _ _ | rw [ax_u_ne (by omega)] | rw [ax_u_nj (by decide)] | rw [ax_sc_ne (by omega)] | unfold ax_ldI | unfold ax_woI | unfold ax_rxI | unfold ax_frI0 | unfold ax_frI1 | unfold ax_frI2 | rw [hI_ _ (by omega)] | rw [hN_ (by omega)])) (Nat.le_trans (hgn g (by omega)).2 (by decide))) mlX10_141 rfl rfl (by have h_ := hC.nothing.1; omega) hC.nothing.2.1 ⟨by show d - 1 + 1 ≤ d; omega, by show 40 * (d - 1 + 1) ≤ 40 * d; omega⟩ ⟨Nat.le_refl _, Nat.le_refl _⟩ rfl (Nat.le_of_ble_eq_true rfl) (dk ddX10_groupIs 36 rfl) ?_
  rintro v_ G_ I_ L_ ⟨rfl, rfl, rfl, rfl⟩
  refine x_l2i C (dk ddX10_groupIs 37 rfl) ?_
  exact x_iret C rfl ⟨rfl, rfl, rfl, rfl⟩ rfl rfl (dk ddX10_groupIs 38 rfl)
set_option maxRecDepth 20000 in
/-- ring of no group -/
theorem k_X10_ring_bad (l : Launch) (D : va_G) (T : Nat → ClassId) (o d : Nat) (G : ax_G) (I : ax_I) (L : ax_L) (a : Nat) (g k : Int32) (hC : ax_Cls G a) (hbad : ax_rng g 6 = false) (hd : 3 ≤ d) : ax_Con l D T o yX10_ring cX10_ring 3 (some .int) d 0 0 [.ref a, .int g, .int k] G I L (fun zz G' I' L' => zz = some (.int ((-1))) ∧ G = G' ∧ I = I' ∧ L = L') := by
  refine ax_enter (by decide +kernel) (Nat.le_of_ble_eq_true rfl) ?_
  intro p_ e_ s_ m_ args_ below_ meth_ c_ C _
  refine x_lvs (lv' := [(0, .ref a), (1, .int g), (2, .int k)]) rfl ?_
  refine x_aload_n C (dk ddX10_ring 0 rfl) rfl ?_
  refine x_iload_n C (dk ddX10_ring 1 rfl) rfl ?_
  refine x_iload_n C (dk ddX10_ring 2 rfl) rfl ?_
  refine x_callV C (ci := 10) (As := [.int g, .int k]) (k_X10_isPlace_bad l D T o (d - 1) G I L a g k hC hbad (by omega)) mlX10_145 rfl rfl (by have h_ := hC.1; omega) hC.fld.1 ⟨by show d - 1 + 1 ≤ d; omega, by show 40 * (d - 1 + 1) ≤ 40 * d; omega⟩ ⟨Nat.le_refl _, Nat.le_refl _⟩ rfl (Nat.le_of_ble_eq_true rfl) (dk ddX10_ring 3 rfl) ?_
  rintro v_ G_ I_ L_ ⟨rfl, rfl, rfl, rfl⟩
  refine x_if_ne_b C (tgt := 11) (dk ddX10_ring 4 rfl) (by decide) (fun h_ => absurd h_ (by decide)) (fun _ => ?_)
  refine x_iconst C (v := (-1)) (dk ddX10_ring 5 rfl) (by decide) ?_
  exact x_iret C rfl ⟨rfl, rfl, rfl, rfl⟩ rfl rfl (dk ddX10_ring 6 rfl)
set_option maxRecDepth 20000 in
/-- ring of no place -/
theorem k_X10_ring_out (l : Launch) (D : va_G) (T : Nat → ClassId) (o d : Nat) (G : ax_G) (I : ax_I) (L : ax_L) (a g : Nat) (gn gc : Nat → Nat) (k : Int32) (hC : ax_Cls G a) (hgn : ∀ g, g < 6 → I (a + 1 + 1) g = nI (gn g) ∧ gn g ≤ 3) (hgc : ∀ g, g < 6 → I (a + 1 + 2) g = nI (gc g) ∧ gc g ≤ 4) (hg : g < 6) (hbad : ax_rng k (nI (gn g)) = false) (hd : 6 ≤ d) : ax_Con l D T o yX10_ring cX10_ring 3 (some .int) d 0 0 [.ref a, .int (nI g), .int k] G I L (fun zz G' I' L' => zz = some (.int ((-1))) ∧ G = G' ∧ I = I' ∧ L = L') := by
  refine ax_enter (by decide +kernel) (Nat.le_of_ble_eq_true rfl) ?_
  intro p_ e_ s_ m_ args_ below_ meth_ c_ C _
  refine x_lvs (lv' := [(0, .ref a), (1, .int (nI g)), (2, .int k)]) rfl ?_
  refine x_aload_n C (dk ddX10_ring 0 rfl) rfl ?_
  refine x_iload_n C (dk ddX10_ring 1 rfl) rfl ?_
  refine x_iload_n C (dk ddX10_ring 2 rfl) rfl ?_
  refine x_callV C (ci := 10) (As := [.int (nI g), .int k]) (k_X10_isPlace l D T o (d - 1) G I L a g k hC (by omega) (by omega)) mlX10_145 rfl rfl (by have h_ := hC.1; omega) hC.fld.1 ⟨by show d - 1 + 1 ≤ d; omega, by show 40 * (d - 1 + 1) ≤ 40 * d; omega⟩ ⟨Nat.le_refl _, Nat.le_refl _⟩ rfl (Nat.le_of_ble_eq_true rfl) (dk ddX10_ring 3 rfl) ?_
  rintro v_ G_ I_ L_ ⟨rfl, rfl, rfl, rfl⟩
  rw [show (ax_rng k (I (a + 1 + 1) g)) = false from by rw [show I (a + 1 + 1) g = nI (gn g) from (by repeat (first | exact ax_u_at _ _ _ _ | exact (hgn g (by omega)).1 | rw [ax_u_ne (by omega)] | rw [ax_u_nj (by decide)] | rw [ax_sc_ne (by omega)] | unfold ax_ldI | unfold ax_woI | unfold ax_rxI | unfold ax_frI0 | unfold ax_frI1 | unfold ax_frI2 | rw [hI_ _ (by omega)] | rw [hN_ (by omega)]))]; exact hbad]
  refine x_if_ne_b C (tgt := 11) (dk ddX10_ring 4 rfl) (by decide) (fun h_ => absurd h_ (by decide)) (fun _ => ?_)
  refine x_iconst C (v := (-1)) (dk ddX10_ring 5 rfl) (by decide) ?_
  exact x_iret C rfl ⟨rfl, rfl, rfl, rfl⟩ rfl rfl (dk ddX10_ring 6 rfl)
def ax_rngv (I : ax_I) (L : ax_L) (a : Nat) (g : Nat) (k : Nat) (gn : Nat → Nat) (gc : Nat → Nat) : Int32 := ((ax_wrL I L a g (a + 616) gn gc) (a + 616) k).toInt32
set_option maxRecDepth 20000 in
/-- ring(g, k) -/
theorem k_X10_ring (l : Launch) (D : va_G) (T : Nat → ClassId) (o d : Nat) (G : ax_G) (I : ax_I) (L : ax_L) (a g k : Nat) (gn gc : Nat → Nat) (hC : ax_Cls G a) (hgn : ∀ g, g < 6 → I (a + 1 + 1) g = nI (gn g) ∧ gn g ≤ 3) (hgc : ∀ g, g < 6 → I (a + 1 + 2) g = nI (gc g) ∧ gc g ≤ 4) (hg : g < 6) (hk : k < gn g) (hd : 6 ≤ d) : ax_Con l D T o yX10_ring cX10_ring 3 (some .int) d 0 0 [.ref a, .int (nI g), .int (nI k)] G I L (fun zz G' I' L' => zz = some (.int (ax_rngv I L a g k gn gc)) ∧ G = G' ∧ (ax_wrI I a g (a + 615) gn) = I' ∧ (ax_wrL I L a g (a + 616) gn gc) = L') := by
  refine ax_enter (by decide +kernel) (Nat.le_of_ble_eq_true rfl) ?_
  intro p_ e_ s_ m_ args_ below_ meth_ c_ C _
  refine x_lvs (lv' := [(0, .ref a), (1, .int (nI g)), (2, .int (nI k))]) rfl ?_
  have hb_ := (hgn g hg).2
  refine x_aload_n C (dk ddX10_ring 0 rfl) rfl ?_
  refine x_iload_n C (dk ddX10_ring 1 rfl) rfl ?_
  refine x_iload_n C (dk ddX10_ring 2 rfl) rfl ?_
  refine x_callV C (ci := 10) (As := [.int (nI g), .int (nI k)]) (k_X10_isPlace l D T o (d - 1) G I L a g (nI k) hC (by omega) (by omega)) mlX10_145 rfl rfl (by have h_ := hC.1; omega) hC.fld.1 ⟨by show d - 1 + 1 ≤ d; omega, by show 40 * (d - 1 + 1) ≤ 40 * d; omega⟩ ⟨Nat.le_refl _, Nat.le_refl _⟩ rfl (Nat.le_of_ble_eq_true rfl) (dk ddX10_ring 3 rfl) ?_
  rintro v_ G_ I_ L_ ⟨rfl, rfl, rfl, rfl⟩
  rw [show (ax_rng (nI k) (I (a + 1 + 1) g)) = true from by rw [show I (a + 1 + 1) g = nI (gn g) from (by repeat (first | exact ax_u_at _ _ _ _ | exact (hgn g (by omega)).1 | rw [ax_u_ne (by omega)] | rw [ax_u_nj (by decide)] | rw [ax_sc_ne (by omega)] | unfold ax_ldI | unfold ax_woI | unfold ax_rxI | unfold ax_frI0 | unfold ax_frI1 | unfold ax_frI2 | rw [hI_ _ (by omega)] | rw [hN_ (by omega)]))]; exact (ax_rng_ok hk (by have h_ := (hgn g (by omega)).2; omega))]
  refine x_if_ne_b C (tgt := 11) (dk ddX10_ring 4 rfl) (by decide) (fun _ => ?_) (fun h_ => absurd h_ (by decide))
  refine x_aload_n C (dk ddX10_ring 7 rfl) rfl ?_
  refine x_iload_n C (dk ddX10_ring 8 rfl) rfl ?_
  refine x_aload_n C (dk ddX10_ring 9 rfl) rfl ?_
  refine x_getr C flX10_79 rfl (by have h_ := hC.1; omega) hC.fld.1 (show ax_R G a 12 = some (a + 615) from hC.fld.2.2 (12, 615) (by decide)) (dk ddX10_ring 10 rfl) ?_
  refine x_callV C (ci := 10) (As := [.int (nI g), .ref (a + 615)]) (k_X10_workOutRings l D T o (d - 1) G I L a g (a + 615) (a + 616) gn gc hC (fun g hg => ⟨(by repeat (first | exact ax_u_at _ _ _ _ | exact (hgn g hg).1 | rw [ax_u_ne (by omega)] | rw [ax_u_nj (by decide)] | rw [ax_sc_ne (by omega)] | unfold ax_wrI | unfold ax_ldI | unfold ax_woI | unfold ax_rxI | unfold ax_frI0 | unfold ax_frI1 | unfold ax_frI2 | rw [hI_ _ (by omega)] | rw [hN_ (by omega)])), (hgn g hg).2⟩) (fun g hg => ⟨(by repeat (first | exact ax_u_at _ _ _ _ | exact (hgc g hg).1 | rw [ax_u_ne (by omega)] | rw [ax_u_nj (by decide)] | rw [ax_sc_ne (by omega)] | unfold ax_wrI | unfold ax_ldI | unfold ax_woI | unfold ax_rxI | unfold ax_frI0 | unfold ax_frI1 | unfold ax_frI2 | rw [hI_ _ (by omega)] | rw [hN_ (by omega)])), (hgc g hg).2⟩) (by omega) hC.rings (by omega) (by omega)) mlX10_129 rfl rfl (by have h_ := hC.1; omega) hC.fld.1 ⟨by show d - 1 + 1 ≤ d; omega, by show 40 * (d - 1 + 1) ≤ 40 * d; omega⟩ ⟨Nat.le_refl _, Nat.le_refl _⟩ rfl (Nat.le_of_ble_eq_true rfl) (dk ddX10_ring 11 rfl) ?_
  rintro v_ G_ I_ L_ ⟨rfl, rfl, rfl, rfl⟩
  refine x_aload_n C (dk ddX10_ring 12 rfl) rfl ?_
  refine x_getr C flX10_79 rfl (by have h_ := hC.1; omega) hC.fld.1 (show ax_R G a 12 = some (a + 615) from hC.fld.2.2 (12, 615) (by decide)) (dk ddX10_ring 13 rfl) ?_
  refine x_getr C flX10_149 rfl hC.rings.1 hC.rings.2.1 hC.rings.2.2.1 (dk ddX10_ring 14 rfl) ?_
  refine x_iload_n C (dk ddX10_ring 15 rfl) rfl ?_
  refine x_lald_n C hC.rings.2.2.2.1 hC.rings.2.2.2.2.1 hC.rings.2.2.2.2.2 (by omega) (by decide) (dk ddX10_ring 16 rfl) ?_
  refine x_l2i C (dk ddX10_ring 17 rfl) ?_
  exact x_iret C rfl ⟨rfl, rfl, rfl, rfl⟩ rfl rfl (dk ddX10_ring 18 rfl)
set_option maxRecDepth 20000 in
/-- normal of no group -/
theorem k_X10_normal_bad (l : Launch) (D : va_G) (T : Nat → ClassId) (o d : Nat) (G : ax_G) (I : ax_I) (L : ax_L) (a : Nat) (g k : Int32) (x y z : Int32) (hC : ax_Cls G a) (hbad : ax_rng g 6 = false) (hd : 3 ≤ d) : ax_Con l D T o yX10_normal cX10_normal 6 (some .long) d 0 0 [.ref a, .int g, .int x, .int y, .int z, .int k] G I L (fun zz G' I' L' => zz = some (.long ((-4000000000000000000) + (-1).toInt64)) ∧ G = G' ∧ I = I' ∧ L = L') := by
  refine ax_enter (by decide +kernel) (Nat.le_of_ble_eq_true rfl) ?_
  intro p_ e_ s_ m_ args_ below_ meth_ c_ C _
  refine x_lvs (lv' := [(0, .ref a), (1, .int g), (2, .int x), (3, .int y), (4, .int z), (5, .int k)]) rfl ?_
  refine x_aload_n C (dk ddX10_normal 0 rfl) rfl ?_
  refine x_iload_n C (dk ddX10_normal 1 rfl) rfl ?_
  refine x_iload C (dk ddX10_normal 2 rfl) rfl ?_
  refine x_callV C (ci := 10) (As := [.int g, .int k]) (k_X10_isPlace_bad l D T o (d - 1) G I L a g k hC hbad (by omega)) mlX10_145 rfl rfl (by have h_ := hC.1; omega) hC.fld.1 ⟨by show d - 1 + 1 ≤ d; omega, by show 40 * (d - 1 + 1) ≤ 40 * d; omega⟩ ⟨Nat.le_refl _, Nat.le_refl _⟩ rfl (Nat.le_of_ble_eq_true rfl) (dk ddX10_normal 3 rfl) ?_
  rintro v_ G_ I_ L_ ⟨rfl, rfl, rfl, rfl⟩
  refine x_if_eq_b C (tgt := 20) (dk ddX10_normal 4 rfl) (by decide) (fun _ => ?_) (fun h_ => absurd h_ (by decide))
  refine x_iconst C (v := (-1)) (dk ddX10_normal 10 rfl) (by decide) ?_
  refine x_callS C (As := [.int (-1)]) (k_X10_refused l D T o (d - 1) G I L (-1)) mlX10_160 ⟨by show d - 1 + 1 ≤ d; omega, by show 40 * (d - 1 + 1) ≤ 40 * d; omega⟩ ⟨Nat.le_refl _, Nat.le_refl _⟩ rfl (Nat.le_of_ble_eq_true rfl) (dk ddX10_normal 11 rfl) ?_
  rintro v_ G_ I_ L_ ⟨rfl, rfl, rfl, rfl⟩
  exact x_lret C rfl ⟨rfl, rfl, rfl, rfl⟩ rfl rfl (dk ddX10_normal 12 rfl)
set_option maxRecDepth 20000 in
/-- normal of no place -/
theorem k_X10_normal_out (l : Launch) (D : va_G) (T : Nat → ClassId) (o d : Nat) (G : ax_G) (I : ax_I) (L : ax_L) (a g : Nat) (gn gc : Nat → Nat) (k : Int32) (x y z : Int32) (hC : ax_Cls G a) (hgn : ∀ g, g < 6 → I (a + 1 + 1) g = nI (gn g) ∧ gn g ≤ 3) (hgc : ∀ g, g < 6 → I (a + 1 + 2) g = nI (gc g) ∧ gc g ≤ 4) (hg : g < 6) (hbad : ax_rng k (nI (gn g)) = false) (hd : 6 ≤ d) : ax_Con l D T o yX10_normal cX10_normal 6 (some .long) d 0 0 [.ref a, .int (nI g), .int x, .int y, .int z, .int k] G I L (fun zz G' I' L' => zz = some (.long ((-4000000000000000000) + (-1).toInt64)) ∧ G = G' ∧ I = I' ∧ L = L') := by
  refine ax_enter (by decide +kernel) (Nat.le_of_ble_eq_true rfl) ?_
  intro p_ e_ s_ m_ args_ below_ meth_ c_ C _
  refine x_lvs (lv' := [(0, .ref a), (1, .int (nI g)), (2, .int x), (3, .int y), (4, .int z), (5, .int k)]) rfl ?_
  refine x_aload_n C (dk ddX10_normal 0 rfl) rfl ?_
  refine x_iload_n C (dk ddX10_normal 1 rfl) rfl ?_
  refine x_iload C (dk ddX10_normal 2 rfl) rfl ?_
  refine x_callV C (ci := 10) (As := [.int (nI g), .int k]) (k_X10_isPlace l D T o (d - 1) G I L a g k hC (by omega) (by omega)) mlX10_145 rfl rfl (by have h_ := hC.1; omega) hC.fld.1 ⟨by show d - 1 + 1 ≤ d; omega, by show 40 * (d - 1 + 1) ≤ 40 * d; omega⟩ ⟨Nat.le_refl _, Nat.le_refl _⟩ rfl (Nat.le_of_ble_eq_true rfl) (dk ddX10_normal 3 rfl) ?_
  rintro v_ G_ I_ L_ ⟨rfl, rfl, rfl, rfl⟩
  rw [show (ax_rng k (I (a + 1 + 1) g)) = false from by rw [show I (a + 1 + 1) g = nI (gn g) from (by repeat (first | exact ax_u_at _ _ _ _ | exact (hgn g (by omega)).1 | rw [ax_u_ne (by omega)] | rw [ax_u_nj (by decide)] | rw [ax_sc_ne (by omega)] | unfold ax_ldI | unfold ax_woI | unfold ax_rxI | unfold ax_frI0 | unfold ax_frI1 | unfold ax_frI2 | rw [hI_ _ (by omega)] | rw [hN_ (by omega)]))]; exact hbad]
  refine x_if_eq_b C (tgt := 20) (dk ddX10_normal 4 rfl) (by decide) (fun _ => ?_) (fun h_ => absurd h_ (by decide))
  refine x_iconst C (v := (-1)) (dk ddX10_normal 10 rfl) (by decide) ?_
  refine x_callS C (As := [.int (-1)]) (k_X10_refused l D T o (d - 1) G I L (-1)) mlX10_160 ⟨by show d - 1 + 1 ≤ d; omega, by show 40 * (d - 1 + 1) ≤ 40 * d; omega⟩ ⟨Nat.le_refl _, Nat.le_refl _⟩ rfl (Nat.le_of_ble_eq_true rfl) (dk ddX10_normal 11 rfl) ?_
  rintro v_ G_ I_ L_ ⟨rfl, rfl, rfl, rfl⟩
  exact x_lret C rfl ⟨rfl, rfl, rfl, rfl⟩ rfl rfl (dk ddX10_normal 12 rfl)
set_option maxRecDepth 20000 in
/-- normal of no element -/
theorem k_X10_normal_el (l : Launch) (D : va_G) (T : Nat → ClassId) (o d : Nat) (G : ax_G) (I : ax_I) (L : ax_L) (a g k : Nat) (gn gc : Nat → Nat) (x y z : Int32) (hC : ax_Cls G a) (hgn : ∀ g, g < 6 → I (a + 1 + 1) g = nI (gn g) ∧ gn g ≤ 3) (hgc : ∀ g, g < 6 → I (a + 1 + 2) g = nI (gc g) ∧ gc g ≤ 4) (hg : g < 6) (hk : k < gn g) (hbad : (ax_iw x.toInt64 (999 : Int32).toInt64 && ax_iw y.toInt64 (999 : Int32).toInt64 && ax_iw z.toInt64 (999 : Int32).toInt64) = false) (hd : 6 ≤ d) : ax_Con l D T o yX10_normal cX10_normal 6 (some .long) d 0 0 [.ref a, .int (nI g), .int x, .int y, .int z, .int (nI k)] G I L (fun zz G' I' L' => zz = some (.long ((-4000000000000000000) + (-1).toInt64)) ∧ G = G' ∧ I = I' ∧ L = L') := by
  refine ax_enter (by decide +kernel) (Nat.le_of_ble_eq_true rfl) ?_
  intro p_ e_ s_ m_ args_ below_ meth_ c_ C _
  refine x_lvs (lv' := [(0, .ref a), (1, .int (nI g)), (2, .int x), (3, .int y), (4, .int z), (5, .int (nI k))]) rfl ?_
  refine x_aload_n C (dk ddX10_normal 0 rfl) rfl ?_
  refine x_iload_n C (dk ddX10_normal 1 rfl) rfl ?_
  refine x_iload C (dk ddX10_normal 2 rfl) rfl ?_
  refine x_callV C (ci := 10) (As := [.int (nI g), .int (nI k)]) (k_X10_isPlace l D T o (d - 1) G I L a g (nI k) hC (by omega) (by omega)) mlX10_145 rfl rfl (by have h_ := hC.1; omega) hC.fld.1 ⟨by show d - 1 + 1 ≤ d; omega, by show 40 * (d - 1 + 1) ≤ 40 * d; omega⟩ ⟨Nat.le_refl _, Nat.le_refl _⟩ rfl (Nat.le_of_ble_eq_true rfl) (dk ddX10_normal 3 rfl) ?_
  rintro v_ G_ I_ L_ ⟨rfl, rfl, rfl, rfl⟩
  rw [show (ax_rng (nI k) (I (a + 1 + 1) g)) = true from by rw [show I (a + 1 + 1) g = nI (gn g) from (by repeat (first | exact ax_u_at _ _ _ _ | exact (hgn g (by omega)).1 | rw [ax_u_ne (by omega)] | rw [ax_u_nj (by decide)] | rw [ax_sc_ne (by omega)] | unfold ax_ldI | unfold ax_woI | unfold ax_rxI | unfold ax_frI0 | unfold ax_frI1 | unfold ax_frI2 | rw [hI_ _ (by omega)] | rw [hN_ (by omega)]))]; exact (ax_rng_ok hk (by have h_ := (hgn g (by omega)).2; omega))]
  refine x_if_eq_b C (tgt := 20) (dk ddX10_normal 4 rfl) (by decide) (fun h_ => absurd h_ (by decide)) (fun _ => ?_)
  refine x_iload_n C (dk ddX10_normal 5 rfl) rfl ?_
  refine x_iload_n C (dk ddX10_normal 6 rfl) rfl ?_
  refine x_iload C (dk ddX10_normal 7 rfl) rfl ?_
  refine x_callS C (As := [.int x, .int y, .int z]) (k_X10_isElement l D T o (d - 1) G I L x y z (by omega)) mlX10_156 ⟨by show d - 1 + 1 ≤ d; omega, by show 40 * (d - 1 + 1) ≤ 40 * d; omega⟩ ⟨Nat.le_refl _, Nat.le_refl _⟩ rfl (Nat.le_of_ble_eq_true rfl) (dk ddX10_normal 8 rfl) ?_
  rintro v_ G_ I_ L_ ⟨rfl, rfl, rfl, rfl⟩
  rw [show (ax_iw x.toInt64 (999 : Int32).toInt64 && ax_iw y.toInt64 (999 : Int32).toInt64 && ax_iw z.toInt64 (999 : Int32).toInt64) = false from hbad]
  refine x_if_ne_b C (tgt := 25) (dk ddX10_normal 9 rfl) (by decide) (fun h_ => absurd h_ (by decide)) (fun _ => ?_)
  refine x_iconst C (v := (-1)) (dk ddX10_normal 10 rfl) (by decide) ?_
  refine x_callS C (As := [.int (-1)]) (k_X10_refused l D T o (d - 1) G I L (-1)) mlX10_160 ⟨by show d - 1 + 1 ≤ d; omega, by show 40 * (d - 1 + 1) ≤ 40 * d; omega⟩ ⟨Nat.le_refl _, Nat.le_refl _⟩ rfl (Nat.le_of_ble_eq_true rfl) (dk ddX10_normal 11 rfl) ?_
  rintro v_ G_ I_ L_ ⟨rfl, rfl, rfl, rfl⟩
  exact x_lret C rfl ⟨rfl, rfl, rfl, rfl⟩ rfl rfl (dk ddX10_normal 12 rfl)
def ax_norL (I : ax_I) (L : ax_L) (a : Nat) (g : Nat) (gn : Nat → Nat) (gc : Nat → Nat) (x : Int32) (y : Int32) (z : Int32) : ax_L := ax_rfo (a + 597) (a + 621) (gn g) 0 ((gn g) - 0) (ax_nth I (a + 1) (a + 597) g (gn g) (gc g) (ax_tl (a + 621) (gn g) x y z L))
set_option maxRecDepth 20000 in
/-- normal(g, x, y, z, k) -/
theorem k_X10_normal (l : Launch) (D : va_G) (T : Nat → ClassId) (o d : Nat) (G : ax_G) (I : ax_I) (L : ax_L) (a g k : Nat) (gn gc : Nat → Nat) (x y z : Int32) (hC : ax_Cls G a) (hgn : ∀ g, g < 6 → I (a + 1 + 1) g = nI (gn g) ∧ gn g ≤ 3) (hgc : ∀ g, g < 6 → I (a + 1 + 2) g = nI (gc g) ∧ gc g ≤ 4) (hg : g < 6) (hk : k < gn g) (he : (ax_iw x.toInt64 (999 : Int32).toInt64 && ax_iw y.toInt64 (999 : Int32).toInt64 && ax_iw z.toInt64 (999 : Int32).toInt64) = true) (hd : 6 ≤ d) : ax_Con l D T o yX10_normal cX10_normal 6 (some .long) d 0 0 [.ref a, .int (nI g), .int x, .int y, .int z, .int (nI k)] G I L (fun zz G' I' L' => zz = some (.long ((ax_rfo (a + 597) (a + 621) (gn g) 0 ((gn g) - 0) (ax_nth I (a + 1) (a + 597) g (gn g) (gc g) (ax_tl (a + 621) (gn g) x y z L))) (a + 621) k)) ∧ G = G' ∧ (ax_u I (a + 597) 2 (nI (gn g))) = I' ∧ (ax_norL I L a g gn gc x y z) = L') := by
  refine ax_enter (by decide +kernel) (Nat.le_of_ble_eq_true rfl) ?_
  intro p_ e_ s_ m_ args_ below_ meth_ c_ C _
  refine x_lvs (lv' := [(0, .ref a), (1, .int (nI g)), (2, .int x), (3, .int y), (4, .int z), (5, .int (nI k))]) rfl ?_
  have hb_ := (hgn g hg).2
  refine x_aload_n C (dk ddX10_normal 0 rfl) rfl ?_
  refine x_iload_n C (dk ddX10_normal 1 rfl) rfl ?_
  refine x_iload C (dk ddX10_normal 2 rfl) rfl ?_
  refine x_callV C (ci := 10) (As := [.int (nI g), .int (nI k)]) (k_X10_isPlace l D T o (d - 1) G I L a g (nI k) hC (by omega) (by omega)) mlX10_145 rfl rfl (by have h_ := hC.1; omega) hC.fld.1 ⟨by show d - 1 + 1 ≤ d; omega, by show 40 * (d - 1 + 1) ≤ 40 * d; omega⟩ ⟨Nat.le_refl _, Nat.le_refl _⟩ rfl (Nat.le_of_ble_eq_true rfl) (dk ddX10_normal 3 rfl) ?_
  rintro v_ G_ I_ L_ ⟨rfl, rfl, rfl, rfl⟩
  rw [show (ax_rng (nI k) (I (a + 1 + 1) g)) = true from by rw [show I (a + 1 + 1) g = nI (gn g) from (by repeat (first | exact ax_u_at _ _ _ _ | exact (hgn g (by omega)).1 | rw [ax_u_ne (by omega)] | rw [ax_u_nj (by decide)] | rw [ax_sc_ne (by omega)] | unfold ax_ldI | unfold ax_woI | unfold ax_rxI | unfold ax_frI0 | unfold ax_frI1 | unfold ax_frI2 | rw [hI_ _ (by omega)] | rw [hN_ (by omega)]))]; exact (ax_rng_ok hk (by have h_ := (hgn g (by omega)).2; omega))]
  refine x_if_eq_b C (tgt := 20) (dk ddX10_normal 4 rfl) (by decide) (fun h_ => absurd h_ (by decide)) (fun _ => ?_)
  refine x_iload_n C (dk ddX10_normal 5 rfl) rfl ?_
  refine x_iload_n C (dk ddX10_normal 6 rfl) rfl ?_
  refine x_iload C (dk ddX10_normal 7 rfl) rfl ?_
  refine x_callS C (As := [.int x, .int y, .int z]) (k_X10_isElement l D T o (d - 1) G I L x y z (by omega)) mlX10_156 ⟨by show d - 1 + 1 ≤ d; omega, by show 40 * (d - 1 + 1) ≤ 40 * d; omega⟩ ⟨Nat.le_refl _, Nat.le_refl _⟩ rfl (Nat.le_of_ble_eq_true rfl) (dk ddX10_normal 8 rfl) ?_
  rintro v_ G_ I_ L_ ⟨rfl, rfl, rfl, rfl⟩
  rw [show (ax_iw x.toInt64 (999 : Int32).toInt64 && ax_iw y.toInt64 (999 : Int32).toInt64 && ax_iw z.toInt64 (999 : Int32).toInt64) = true from he]
  refine x_if_ne_b C (tgt := 25) (dk ddX10_normal 9 rfl) (by decide) (fun _ => ?_) (fun h_ => absurd h_ (by decide))
  refine x_aload_n C (dk ddX10_normal 13 rfl) rfl ?_
  refine x_iload_n C (dk ddX10_normal 14 rfl) rfl ?_
  refine x_iload_n C (dk ddX10_normal 15 rfl) rfl ?_
  refine x_iload_n C (dk ddX10_normal 16 rfl) rfl ?_
  refine x_iload C (dk ddX10_normal 17 rfl) rfl ?_
  refine x_callV C (ci := 10) (As := [.int (nI g), .int x, .int y, .int z]) (k_X10_tell l D T o (d - 1) G I L a g (gn g) x y z hC (by omega) (by repeat (first | exact ax_u_at _ _ _ _ | exact (hgn g (by omega)).1 | rw [ax_u_ne (by omega)] | rw [ax_u_nj (by decide)] | rw [ax_sc_ne (by omega)] | unfold ax_ldI | unfold ax_woI | unfold ax_rxI | unfold ax_frI0 | unfold ax_frI1 | unfold ax_frI2 | rw [hI_ _ (by omega)] | rw [hN_ (by omega)])) (hgn g (by omega)).2 (by omega)) mlX10_121 rfl rfl (by have h_ := hC.1; omega) hC.fld.1 ⟨by show d - 1 + 1 ≤ d; omega, by show 40 * (d - 1 + 1) ≤ 40 * d; omega⟩ ⟨Nat.le_refl _, Nat.le_refl _⟩ rfl (Nat.le_of_ble_eq_true rfl) (dk ddX10_normal 18 rfl) ?_
  rintro v_ G_ I_ L_ ⟨rfl, rfl, rfl, rfl⟩
  refine x_aload_n C (dk ddX10_normal 19 rfl) rfl ?_
  refine x_getr C flX10_10 rfl (by have h_ := hC.1; omega) hC.fld.1 (show ax_R G a 0 = some (a + 1) from hC.fld.2.2 (0, 1) (by decide)) (dk ddX10_normal 20 rfl) ?_
  refine x_iload_n C (dk ddX10_normal 21 rfl) rfl ?_
  refine x_aload_n C (dk ddX10_normal 22 rfl) rfl ?_
  refine x_getr C flX10_69 rfl (by have h_ := hC.1; omega) hC.fld.1 (show ax_R G a 10 = some (a + 597) from hC.fld.2.2 (10, 597) (by decide)) (dk ddX10_normal 23 rfl) ?_
  refine x_callV C (ci := 7) (As := [.int (nI g), .ref (a + 597)]) (k_X7_fill l D T o (d - 1) G I (ax_tl (a + 621) (gn g) x y z L) (a + 1) g (a + 597) (gn g) (gc g) hC.state hC.nothing (by omega) (by omega) (by repeat (first | exact ax_u_at _ _ _ _ | exact (hgn g (by omega)).1 | rw [ax_u_ne (by omega)] | rw [ax_u_nj (by decide)] | rw [ax_sc_ne (by omega)] | unfold ax_ldI | unfold ax_woI | unfold ax_rxI | unfold ax_frI0 | unfold ax_frI1 | unfold ax_frI2 | rw [hI_ _ (by omega)] | rw [hN_ (by omega)])) (hgn g (by omega)).2 (by repeat (first | exact ax_u_at _ _ _ _ | exact (hgc g (by omega)).1 | rw [ax_u_ne (by omega)] | rw [ax_u_nj (by decide)] | rw [ax_sc_ne (by omega)] | unfold ax_ldI | unfold ax_woI | unfold ax_rxI | unfold ax_frI0 | unfold ax_frI1 | unfold ax_frI2 | rw [hI_ _ (by omega)] | rw [hN_ (by omega)])) (hgc g (by omega)).2 (by omega)) mlX10_137 rfl rfl (by have h_ := hC.state.1; omega) (show ax_K G (a + 1) = 8 + 7 from (hC.state.2 0 _ rfl).1) ⟨by show d - 1 + 1 ≤ d; omega, by show 40 * (d - 1 + 1) ≤ 40 * d; omega⟩ ⟨Nat.le_refl _, Nat.le_refl _⟩ rfl (Nat.le_of_ble_eq_true rfl) (dk ddX10_normal 24 rfl) ?_
  rintro v_ G_ I_ L_ ⟨rfl, rfl, rfl, rfl⟩
  refine x_aload_n C (dk ddX10_normal 25 rfl) rfl ?_
  refine x_getr C flX10_69 rfl (by have h_ := hC.1; omega) hC.fld.1 (show ax_R G a 10 = some (a + 597) from hC.fld.2.2 (10, 597) (by decide)) (dk ddX10_normal 26 rfl) ?_
  refine x_aload_n C (dk ddX10_normal 27 rfl) rfl ?_
  refine x_getr C flX10_89 rfl (by have h_ := hC.1; omega) hC.fld.1 (show ax_R G a 15 = some (a + 621) from hC.fld.2.2 (15, 621) (by decide)) (dk ddX10_normal 28 rfl) ?_
  refine x_callV C (ci := 2) (As := [.ref (a + 621)]) (k_X2_reduce_n l D T o (d - 1) G (ax_u I (a + 597) 2 (nI (gn g))) (ax_nth I (a + 1) (a + 597) g (gn g) (gc g) (ax_tl (a + 621) (gn g) x y z L)) (a + 597) (a + 621) (gn g) 6 hC.nothing (by repeat (first | exact ax_u_at _ _ _ _ | rw [ax_u_ne (by omega)] | rw [ax_u_nj (by decide)] | rw [ax_sc_ne (by omega)] | unfold ax_ldI | unfold ax_woI | unfold ax_rxI | unfold ax_frI0 | unfold ax_frI1 | unfold ax_frI2 | rw [hI_ _ (by omega)] | rw [hN_ (by omega)])) (Nat.le_trans (hgn g (by omega)).2 (by decide)) ⟨hC.row.1, hC.row.2.1, hC.row.2.2⟩ (Nat.le_trans (hgn g (by omega)).2 (by decide)) (by decide) (by omega)) mlX10_163 rfl rfl (by have h_ := hC.nothing.1; omega) hC.nothing.2.1 ⟨by show d - 1 + 1 ≤ d; omega, by show 40 * (d - 1 + 1) ≤ 40 * d; omega⟩ ⟨Nat.le_refl _, Nat.le_refl _⟩ rfl (Nat.le_of_ble_eq_true rfl) (dk ddX10_normal 29 rfl) ?_
  rintro v_ G_ I_ L_ ⟨rfl, rfl, rfl, rfl⟩
  refine x_aload_n C (dk ddX10_normal 30 rfl) rfl ?_
  refine x_getr C flX10_89 rfl (by have h_ := hC.1; omega) hC.fld.1 (show ax_R G a 15 = some (a + 621) from hC.fld.2.2 (15, 621) (by decide)) (dk ddX10_normal 31 rfl) ?_
  refine x_iload C (dk ddX10_normal 32 rfl) rfl ?_
  refine x_lald_n C hC.row.1 hC.row.2.1 hC.row.2.2 (by omega) (by decide) (dk ddX10_normal 33 rfl) ?_
  exact x_lret C rfl ⟨rfl, rfl, rfl, rfl⟩ rfl rfl (dk ddX10_normal 34 rfl)
set_option maxRecDepth 20000 in
/-- order, refused -/
theorem k_X10_order_bad (l : Launch) (D : va_G) (T : Nat → ClassId) (o d : Nat) (G : ax_G) (I : ax_I) (L : ax_L) (a : Nat) (g : Int32) (x y z : Int32) (hC : ax_Cls G a) (hbad : ax_rng g 6 = false ∨ (ax_iw x.toInt64 (999 : Int32).toInt64 && ax_iw y.toInt64 (999 : Int32).toInt64 && ax_iw z.toInt64 (999 : Int32).toInt64) = false) (hd : 3 ≤ d) : ax_Con l D T o yX10_order cX10_order 5 (some .int) d 0 0 [.ref a, .int g, .int x, .int y, .int z] G I L (fun zz G' I' L' => zz = some (.int ((-1))) ∧ G = G' ∧ I = I' ∧ L = L') := by
  refine ax_enter (by decide +kernel) (Nat.le_of_ble_eq_true rfl) ?_
  intro p_ e_ s_ m_ args_ below_ meth_ c_ C _
  refine x_lvs (lv' := [(0, .ref a), (1, .int g), (2, .int x), (3, .int y), (4, .int z)]) rfl ?_
  refine x_iload_n C (dk ddX10_order 0 rfl) rfl ?_
  refine x_callS C (As := [.int g]) (k_X10_isGroup l D T o (d - 1) G I L g) mlX10_98 ⟨by show d - 1 + 1 ≤ d; omega, by show 40 * (d - 1 + 1) ≤ 40 * d; omega⟩ ⟨Nat.le_refl _, Nat.le_refl _⟩ rfl (Nat.le_of_ble_eq_true rfl) (dk ddX10_order 1 rfl) ?_
  rintro v_ G_ I_ L_ ⟨rfl, rfl, rfl, rfl⟩
  refine x_if_eq_b C (tgt := 17) (dk ddX10_order 2 rfl) (by decide) (fun h4 => ?_) (fun h4 => ?_)
  · refine x_iconst C (v := (-1)) (dk ddX10_order 8 rfl) (by decide) ?_
    exact x_iret C rfl ⟨rfl, rfl, rfl, rfl⟩ rfl rfl (dk ddX10_order 9 rfl)
  · refine x_iload_n C (dk ddX10_order 3 rfl) rfl ?_
    refine x_iload_n C (dk ddX10_order 4 rfl) rfl ?_
    refine x_iload C (dk ddX10_order 5 rfl) rfl ?_
    refine x_callS C (As := [.int x, .int y, .int z]) (k_X10_isElement l D T o (d - 1) G I L x y z (by omega)) mlX10_156 ⟨by show d - 1 + 1 ≤ d; omega, by show 40 * (d - 1 + 1) ≤ 40 * d; omega⟩ ⟨Nat.le_refl _, Nat.le_refl _⟩ rfl (Nat.le_of_ble_eq_true rfl) (dk ddX10_order 6 rfl) ?_
    rintro v_ G_ I_ L_ ⟨rfl, rfl, rfl, rfl⟩
    refine x_if_ne_b C (tgt := 19) (dk ddX10_order 7 rfl) (by decide) (fun h14 => ?_) (fun h14 => ?_)
    · exfalso
      rcases hbad with hq_ | hq_ <;> first | exact absurd hq_ (by assumption) | (simp_all; done)
    · refine x_iconst C (v := (-1)) (dk ddX10_order 8 rfl) (by decide) ?_
      exact x_iret C rfl ⟨rfl, rfl, rfl, rfl⟩ rfl rfl (dk ddX10_order 9 rfl)
def ax_ordL (I : ax_I) (L : ax_L) (a : Nat) (g : Nat) (gn : Nat → Nat) (gc : Nat → Nat) (x : Int32) (y : Int32) (z : Int32) : ax_L := (ax_oro (a + 597) (a + 621) (gn g) (gn g) 0 ((ax_nth I (a + 1) (a + 597) g (gn g) (gc g) (ax_tl (a + 621) (gn g) x y z L)), 1)).2
def ax_ordv (I : ax_I) (L : ax_L) (a : Nat) (g : Nat) (gn : Nat → Nat) (gc : Nat → Nat) (x : Int32) (y : Int32) (z : Int32) : Int32 := ((ax_oro (a + 597) (a + 621) (gn g) (gn g) 0 ((ax_nth I (a + 1) (a + 597) g (gn g) (gc g) (ax_tl (a + 621) (gn g) x y z L)), 1)).1).toInt32
set_option maxRecDepth 20000 in
/-- order(g, x, y, z) -/
theorem k_X10_order (l : Launch) (D : va_G) (T : Nat → ClassId) (o d : Nat) (G : ax_G) (I : ax_I) (L : ax_L) (a g : Nat) (gn gc : Nat → Nat) (x y z : Int32) (hC : ax_Cls G a) (hgn : ∀ g, g < 6 → I (a + 1 + 1) g = nI (gn g) ∧ gn g ≤ 3) (hgc : ∀ g, g < 6 → I (a + 1 + 2) g = nI (gc g) ∧ gc g ≤ 4) (hg : g < 6) (he : (ax_iw x.toInt64 (999 : Int32).toInt64 && ax_iw y.toInt64 (999 : Int32).toInt64 && ax_iw z.toInt64 (999 : Int32).toInt64) = true) (hd : 6 ≤ d) : ax_Con l D T o yX10_order cX10_order 5 (some .int) d 0 0 [.ref a, .int (nI g), .int x, .int y, .int z] G I L (fun zz G' I' L' => zz = some (.int (ax_ordv I L a g gn gc x y z)) ∧ G = G' ∧ (ax_u I (a + 597) 2 (nI (gn g))) = I' ∧ (ax_ordL I L a g gn gc x y z) = L') := by
  refine ax_enter (by decide +kernel) (Nat.le_of_ble_eq_true rfl) ?_
  intro p_ e_ s_ m_ args_ below_ meth_ c_ C _
  refine x_lvs (lv' := [(0, .ref a), (1, .int (nI g)), (2, .int x), (3, .int y), (4, .int z)]) rfl ?_
  refine x_iload_n C (dk ddX10_order 0 rfl) rfl ?_
  refine x_callS C (As := [.int (nI g)]) (k_X10_isGroup l D T o (d - 1) G I L (nI g)) mlX10_98 ⟨by show d - 1 + 1 ≤ d; omega, by show 40 * (d - 1 + 1) ≤ 40 * d; omega⟩ ⟨Nat.le_refl _, Nat.le_refl _⟩ rfl (Nat.le_of_ble_eq_true rfl) (dk ddX10_order 1 rfl) ?_
  rintro v_ G_ I_ L_ ⟨rfl, rfl, rfl, rfl⟩
  rw [show (ax_rng (nI g) 6) = true from ax_rng_ok (h := 6) (by omega) (by decide)]
  refine x_if_eq_b C (tgt := 17) (dk ddX10_order 2 rfl) (by decide) (fun h_ => absurd h_ (by decide)) (fun _ => ?_)
  refine x_iload_n C (dk ddX10_order 3 rfl) rfl ?_
  refine x_iload_n C (dk ddX10_order 4 rfl) rfl ?_
  refine x_iload C (dk ddX10_order 5 rfl) rfl ?_
  refine x_callS C (As := [.int x, .int y, .int z]) (k_X10_isElement l D T o (d - 1) G I L x y z (by omega)) mlX10_156 ⟨by show d - 1 + 1 ≤ d; omega, by show 40 * (d - 1 + 1) ≤ 40 * d; omega⟩ ⟨Nat.le_refl _, Nat.le_refl _⟩ rfl (Nat.le_of_ble_eq_true rfl) (dk ddX10_order 6 rfl) ?_
  rintro v_ G_ I_ L_ ⟨rfl, rfl, rfl, rfl⟩
  rw [show (ax_iw x.toInt64 (999 : Int32).toInt64 && ax_iw y.toInt64 (999 : Int32).toInt64 && ax_iw z.toInt64 (999 : Int32).toInt64) = true from he]
  refine x_if_ne_b C (tgt := 19) (dk ddX10_order 7 rfl) (by decide) (fun _ => ?_) (fun h_ => absurd h_ (by decide))
  refine x_aload_n C (dk ddX10_order 10 rfl) rfl ?_
  refine x_iload_n C (dk ddX10_order 11 rfl) rfl ?_
  refine x_iload_n C (dk ddX10_order 12 rfl) rfl ?_
  refine x_iload_n C (dk ddX10_order 13 rfl) rfl ?_
  refine x_iload C (dk ddX10_order 14 rfl) rfl ?_
  refine x_callV C (ci := 10) (As := [.int (nI g), .int x, .int y, .int z]) (k_X10_tell l D T o (d - 1) G I L a g (gn g) x y z hC (by omega) (by repeat (first | exact ax_u_at _ _ _ _ | exact (hgn g (by omega)).1 | rw [ax_u_ne (by omega)] | rw [ax_u_nj (by decide)] | rw [ax_sc_ne (by omega)] | unfold ax_ldI | unfold ax_woI | unfold ax_rxI | unfold ax_frI0 | unfold ax_frI1 | unfold ax_frI2 | rw [hI_ _ (by omega)] | rw [hN_ (by omega)])) (hgn g (by omega)).2 (by omega)) mlX10_121 rfl rfl (by have h_ := hC.1; omega) hC.fld.1 ⟨by show d - 1 + 1 ≤ d; omega, by show 40 * (d - 1 + 1) ≤ 40 * d; omega⟩ ⟨Nat.le_refl _, Nat.le_refl _⟩ rfl (Nat.le_of_ble_eq_true rfl) (dk ddX10_order 15 rfl) ?_
  rintro v_ G_ I_ L_ ⟨rfl, rfl, rfl, rfl⟩
  refine x_aload_n C (dk ddX10_order 16 rfl) rfl ?_
  refine x_getr C flX10_10 rfl (by have h_ := hC.1; omega) hC.fld.1 (show ax_R G a 0 = some (a + 1) from hC.fld.2.2 (0, 1) (by decide)) (dk ddX10_order 17 rfl) ?_
  refine x_iload_n C (dk ddX10_order 18 rfl) rfl ?_
  refine x_aload_n C (dk ddX10_order 19 rfl) rfl ?_
  refine x_getr C flX10_69 rfl (by have h_ := hC.1; omega) hC.fld.1 (show ax_R G a 10 = some (a + 597) from hC.fld.2.2 (10, 597) (by decide)) (dk ddX10_order 20 rfl) ?_
  refine x_callV C (ci := 7) (As := [.int (nI g), .ref (a + 597)]) (k_X7_fill l D T o (d - 1) G I (ax_tl (a + 621) (gn g) x y z L) (a + 1) g (a + 597) (gn g) (gc g) hC.state hC.nothing (by omega) (by omega) (by repeat (first | exact ax_u_at _ _ _ _ | exact (hgn g (by omega)).1 | rw [ax_u_ne (by omega)] | rw [ax_u_nj (by decide)] | rw [ax_sc_ne (by omega)] | unfold ax_ldI | unfold ax_woI | unfold ax_rxI | unfold ax_frI0 | unfold ax_frI1 | unfold ax_frI2 | rw [hI_ _ (by omega)] | rw [hN_ (by omega)])) (hgn g (by omega)).2 (by repeat (first | exact ax_u_at _ _ _ _ | exact (hgc g (by omega)).1 | rw [ax_u_ne (by omega)] | rw [ax_u_nj (by decide)] | rw [ax_sc_ne (by omega)] | unfold ax_ldI | unfold ax_woI | unfold ax_rxI | unfold ax_frI0 | unfold ax_frI1 | unfold ax_frI2 | rw [hI_ _ (by omega)] | rw [hN_ (by omega)])) (hgc g (by omega)).2 (by omega)) mlX10_137 rfl rfl (by have h_ := hC.state.1; omega) (show ax_K G (a + 1) = 8 + 7 from (hC.state.2 0 _ rfl).1) ⟨by show d - 1 + 1 ≤ d; omega, by show 40 * (d - 1 + 1) ≤ 40 * d; omega⟩ ⟨Nat.le_refl _, Nat.le_refl _⟩ rfl (Nat.le_of_ble_eq_true rfl) (dk ddX10_order 21 rfl) ?_
  rintro v_ G_ I_ L_ ⟨rfl, rfl, rfl, rfl⟩
  refine x_aload_n C (dk ddX10_order 22 rfl) rfl ?_
  refine x_getr C flX10_69 rfl (by have h_ := hC.1; omega) hC.fld.1 (show ax_R G a 10 = some (a + 597) from hC.fld.2.2 (10, 597) (by decide)) (dk ddX10_order 23 rfl) ?_
  refine x_aload_n C (dk ddX10_order 24 rfl) rfl ?_
  refine x_getr C flX10_89 rfl (by have h_ := hC.1; omega) hC.fld.1 (show ax_R G a 15 = some (a + 621) from hC.fld.2.2 (15, 621) (by decide)) (dk ddX10_order 25 rfl) ?_
  refine x_callV C (ci := 2) (As := [.ref (a + 621)]) (k_X2_orderOf l D T o (d - 1) G (ax_u I (a + 597) 2 (nI (gn g))) (ax_nth I (a + 1) (a + 597) g (gn g) (gc g) (ax_tl (a + 621) (gn g) x y z L)) (a + 597) (a + 621) (gn g) hC.nothing (by repeat (first | exact ax_u_at _ _ _ _ | rw [ax_u_ne (by omega)] | rw [ax_u_nj (by decide)] | rw [ax_sc_ne (by omega)] | unfold ax_ldI | unfold ax_woI | unfold ax_rxI | unfold ax_frI0 | unfold ax_frI1 | unfold ax_frI2 | rw [hI_ _ (by omega)] | rw [hN_ (by omega)])) (Nat.le_trans (hgn g (by omega)).2 (by decide)) ⟨hC.row.1, hC.row.2.1, hC.row.2.2⟩ (by omega)) mlX10_167 rfl rfl (by have h_ := hC.nothing.1; omega) hC.nothing.2.1 ⟨by show d - 1 + 1 ≤ d; omega, by show 40 * (d - 1 + 1) ≤ 40 * d; omega⟩ ⟨Nat.le_refl _, Nat.le_refl _⟩ rfl (Nat.le_of_ble_eq_true rfl) (dk ddX10_order 26 rfl) ?_
  rintro v_ G_ I_ L_ ⟨rfl, rfl, rfl, rfl⟩
  refine x_l2i C (dk ddX10_order 27 rfl) ?_
  exact x_iret C rfl ⟨rfl, rfl, rfl, rfl⟩ rfl rfl (dk ddX10_order 28 rfl)
set_option maxRecDepth 20000 in
/-- same, refused -/
theorem k_X10_same_bad (l : Launch) (D : va_G) (T : Nat → ClassId) (o d : Nat) (G : ax_G) (I : ax_I) (L : ax_L) (a : Nat) (g h : Int32) (hC : ax_Cls G a) (hbad : ax_rng g 6 = false ∨ ax_rng h 6 = false) (hd : 3 ≤ d) : ax_Con l D T o yX10_same cX10_same 3 (some .int) d 0 0 [.ref a, .int g, .int h] G I L (fun zz G' I' L' => zz = some (.int ((-1))) ∧ G = G' ∧ I = I' ∧ L = L') := by
  refine ax_enter (by decide +kernel) (Nat.le_of_ble_eq_true rfl) ?_
  intro p_ e_ s_ m_ args_ below_ meth_ c_ C _
  refine x_lvs (lv' := [(0, .ref a), (1, .int g), (2, .int h)]) rfl ?_
  refine x_iload_n C (dk ddX10_same 0 rfl) rfl ?_
  refine x_callS C (As := [.int g]) (k_X10_isGroup l D T o (d - 1) G I L g) mlX10_98 ⟨by show d - 1 + 1 ≤ d; omega, by show 40 * (d - 1 + 1) ≤ 40 * d; omega⟩ ⟨Nat.le_refl _, Nat.le_refl _⟩ rfl (Nat.le_of_ble_eq_true rfl) (dk ddX10_same 1 rfl) ?_
  rintro v_ G_ I_ L_ ⟨rfl, rfl, rfl, rfl⟩
  refine x_if_eq_b C (tgt := 14) (dk ddX10_same 2 rfl) (by decide) (fun h4 => ?_) (fun h4 => ?_)
  · refine x_iconst C (v := (-1)) (dk ddX10_same 6 rfl) (by decide) ?_
    exact x_iret C rfl ⟨rfl, rfl, rfl, rfl⟩ rfl rfl (dk ddX10_same 7 rfl)
  · refine x_iload_n C (dk ddX10_same 3 rfl) rfl ?_
    refine x_callS C (As := [.int h]) (k_X10_isGroup l D T o (d - 1) G I L h) mlX10_98 ⟨by show d - 1 + 1 ≤ d; omega, by show 40 * (d - 1 + 1) ≤ 40 * d; omega⟩ ⟨Nat.le_refl _, Nat.le_refl _⟩ rfl (Nat.le_of_ble_eq_true rfl) (dk ddX10_same 4 rfl) ?_
    rintro v_ G_ I_ L_ ⟨rfl, rfl, rfl, rfl⟩
    refine x_if_ne_b C (tgt := 16) (dk ddX10_same 5 rfl) (by decide) (fun h11 => ?_) (fun h11 => ?_)
    · exfalso
      rcases hbad with hq_ | hq_ <;> first | exact absurd hq_ (by assumption) | (simp_all; done)
    · refine x_iconst C (v := (-1)) (dk ddX10_same 6 rfl) (by decide) ?_
      exact x_iret C rfl ⟨rfl, rfl, rfl, rfl⟩ rfl rfl (dk ddX10_same 7 rfl)
def ax_hso (f g : Nat → Int64) (n p : Nat) : Bool := decide (ax_cn f n = ax_cn g p ∧ ∀ j, j < ax_cn f n → ax_owc f n j = ax_owc g p j)
theorem k_X4_haveSameOwnD (l : Launch) (D : va_G) (T : Nat → ClassId) (o d : Nat) (G : ax_G) (I : ax_I) (L : ax_L) (r x n q y p : Nat) (hr : ax_Rg G r x) (hn : I r 1 = nI n) (hn9 : n ≤ 9) (hq : ax_Rg G q y) (hp : I q 1 = nI p) (hp9 : p ≤ 9) (hd : 2 ≤ d) : ax_Con l D T o yX4_haveSameOwn cX4_haveSameOwn 4 (some .boolean) d 0 0 [.ref r, .ref q] G I L (ax_pure G I L (.int (ax_b (ax_hso (L x) (L y) n p)))) := k_X4_haveSameOwn l D T o d G I L r x n q y p hr hn hn9 hq hp hp9 hd
def ax_samI (I : ax_I) (a : Nat) (g : Nat) (h : Nat) (gn : Nat → Nat) : ax_I := ax_wrI (ax_wrI I a g (a + 615) gn) a h (a + 617) gn
def ax_samL (I : ax_I) (L : ax_L) (a : Nat) (g : Nat) (h : Nat) (gn : Nat → Nat) (gc : Nat → Nat) : ax_L := ax_wrL (ax_wrI I a g (a + 615) gn) (ax_wrL I L a g (a + 616) gn gc) a h (a + 618) gn gc
def ax_samv (I : ax_I) (L : ax_L) (a : Nat) (g : Nat) (h : Nat) (gn : Nat → Nat) (gc : Nat → Nat) : Int32 := if (ax_hso ((ax_wrL (ax_wrI I a g (a + 615) gn) (ax_wrL I L a g (a + 616) gn gc) a h (a + 618) gn gc) (a + 616)) ((ax_wrL (ax_wrI I a g (a + 615) gn) (ax_wrL I L a g (a + 616) gn gc) a h (a + 618) gn gc) (a + 618)) (gn g) (gn h)) = true then nI 1 else nI 0
set_option maxRecDepth 20000 in
/-- same(g, h) -/
theorem k_X10_same (l : Launch) (D : va_G) (T : Nat → ClassId) (o d : Nat) (G : ax_G) (I : ax_I) (L : ax_L) (a g h : Nat) (gn gc : Nat → Nat) (hC : ax_Cls G a) (hgn : ∀ g, g < 6 → I (a + 1 + 1) g = nI (gn g) ∧ gn g ≤ 3) (hgc : ∀ g, g < 6 → I (a + 1 + 2) g = nI (gc g) ∧ gc g ≤ 4) (hg : g < 6) (hh : h < 6) (hd : 6 ≤ d) : ax_Con l D T o yX10_same cX10_same 3 (some .int) d 0 0 [.ref a, .int (nI g), .int (nI h)] G I L (fun zz G' I' L' => zz = some (.int (ax_samv I L a g h gn gc)) ∧ G = G' ∧ (ax_samI I a g h gn) = I' ∧ (ax_samL I L a g h gn gc) = L') := by
  refine ax_enter (by decide +kernel) (Nat.le_of_ble_eq_true rfl) ?_
  intro p_ e_ s_ m_ args_ below_ meth_ c_ C _
  refine x_lvs (lv' := [(0, .ref a), (1, .int (nI g)), (2, .int (nI h))]) rfl ?_
  have hb_ := (hgn g hg).2
  have hb2_ := (hgn h hh).2
  refine x_iload_n C (dk ddX10_same 0 rfl) rfl ?_
  refine x_callS C (As := [.int (nI g)]) (k_X10_isGroup l D T o (d - 1) G I L (nI g)) mlX10_98 ⟨by show d - 1 + 1 ≤ d; omega, by show 40 * (d - 1 + 1) ≤ 40 * d; omega⟩ ⟨Nat.le_refl _, Nat.le_refl _⟩ rfl (Nat.le_of_ble_eq_true rfl) (dk ddX10_same 1 rfl) ?_
  rintro v_ G_ I_ L_ ⟨rfl, rfl, rfl, rfl⟩
  rw [show (ax_rng (nI g) 6) = true from ax_rng_ok (h := 6) (by omega) (by decide)]
  refine x_if_eq_b C (tgt := 14) (dk ddX10_same 2 rfl) (by decide) (fun h_ => absurd h_ (by decide)) (fun _ => ?_)
  refine x_iload_n C (dk ddX10_same 3 rfl) rfl ?_
  refine x_callS C (As := [.int (nI h)]) (k_X10_isGroup l D T o (d - 1) G I L (nI h)) mlX10_98 ⟨by show d - 1 + 1 ≤ d; omega, by show 40 * (d - 1 + 1) ≤ 40 * d; omega⟩ ⟨Nat.le_refl _, Nat.le_refl _⟩ rfl (Nat.le_of_ble_eq_true rfl) (dk ddX10_same 4 rfl) ?_
  rintro v_ G_ I_ L_ ⟨rfl, rfl, rfl, rfl⟩
  rw [show (ax_rng (nI h) 6) = true from ax_rng_ok (h := 6) (by omega) (by decide)]
  refine x_if_ne_b C (tgt := 16) (dk ddX10_same 5 rfl) (by decide) (fun _ => ?_) (fun h_ => absurd h_ (by decide))
  refine x_aload_n C (dk ddX10_same 8 rfl) rfl ?_
  refine x_iload_n C (dk ddX10_same 9 rfl) rfl ?_
  refine x_aload_n C (dk ddX10_same 10 rfl) rfl ?_
  refine x_getr C flX10_79 rfl (by have h_ := hC.1; omega) hC.fld.1 (show ax_R G a 12 = some (a + 615) from hC.fld.2.2 (12, 615) (by decide)) (dk ddX10_same 11 rfl) ?_
  refine x_callV C (ci := 10) (As := [.int (nI g), .ref (a + 615)]) (k_X10_workOutRings l D T o (d - 1) G I L a g (a + 615) (a + 616) gn gc hC (fun g hg => ⟨(by repeat (first | exact ax_u_at _ _ _ _ | exact (hgn g hg).1 | rw [ax_u_ne (by omega)] | rw [ax_u_nj (by decide)] | rw [ax_sc_ne (by omega)] | unfold ax_wrI | unfold ax_ldI | unfold ax_woI | unfold ax_rxI | unfold ax_frI0 | unfold ax_frI1 | unfold ax_frI2 | rw [hI_ _ (by omega)] | rw [hN_ (by omega)])), (hgn g hg).2⟩) (fun g hg => ⟨(by repeat (first | exact ax_u_at _ _ _ _ | exact (hgc g hg).1 | rw [ax_u_ne (by omega)] | rw [ax_u_nj (by decide)] | rw [ax_sc_ne (by omega)] | unfold ax_wrI | unfold ax_ldI | unfold ax_woI | unfold ax_rxI | unfold ax_frI0 | unfold ax_frI1 | unfold ax_frI2 | rw [hI_ _ (by omega)] | rw [hN_ (by omega)])), (hgc g hg).2⟩) (by omega) hC.rings (by omega) (by omega)) mlX10_129 rfl rfl (by have h_ := hC.1; omega) hC.fld.1 ⟨by show d - 1 + 1 ≤ d; omega, by show 40 * (d - 1 + 1) ≤ 40 * d; omega⟩ ⟨Nat.le_refl _, Nat.le_refl _⟩ rfl (Nat.le_of_ble_eq_true rfl) (dk ddX10_same 12 rfl) ?_
  rintro v_ G_ I_ L_ ⟨rfl, rfl, rfl, rfl⟩
  refine x_aload_n C (dk ddX10_same 13 rfl) rfl ?_
  refine x_iload_n C (dk ddX10_same 14 rfl) rfl ?_
  refine x_aload_n C (dk ddX10_same 15 rfl) rfl ?_
  refine x_getr C flX10_83 rfl (by have h_ := hC.1; omega) hC.fld.1 (show ax_R G a 13 = some (a + 617) from hC.fld.2.2 (13, 617) (by decide)) (dk ddX10_same 16 rfl) ?_
  refine x_callV C (ci := 10) (As := [.int (nI h), .ref (a + 617)]) (k_X10_workOutRings l D T o (d - 1) G (ax_wrI I a g (a + 615) gn) (ax_wrL I L a g (a + 616) gn gc) a h (a + 617) (a + 618) gn gc hC (fun g hg => ⟨(by repeat (first | exact ax_u_at _ _ _ _ | exact (hgn g hg).1 | rw [ax_u_ne (by omega)] | rw [ax_u_nj (by decide)] | rw [ax_sc_ne (by omega)] | unfold ax_wrI | unfold ax_ldI | unfold ax_woI | unfold ax_rxI | unfold ax_frI0 | unfold ax_frI1 | unfold ax_frI2 | rw [hI_ _ (by omega)] | rw [hN_ (by omega)])), (hgn g hg).2⟩) (fun g hg => ⟨(by repeat (first | exact ax_u_at _ _ _ _ | exact (hgc g hg).1 | rw [ax_u_ne (by omega)] | rw [ax_u_nj (by decide)] | rw [ax_sc_ne (by omega)] | unfold ax_wrI | unfold ax_ldI | unfold ax_woI | unfold ax_rxI | unfold ax_frI0 | unfold ax_frI1 | unfold ax_frI2 | rw [hI_ _ (by omega)] | rw [hN_ (by omega)])), (hgc g hg).2⟩) (by omega) hC.otherRings (by omega) (by omega)) mlX10_129 rfl rfl (by have h_ := hC.1; omega) hC.fld.1 ⟨by show d - 1 + 1 ≤ d; omega, by show 40 * (d - 1 + 1) ≤ 40 * d; omega⟩ ⟨Nat.le_refl _, Nat.le_refl _⟩ rfl (Nat.le_of_ble_eq_true rfl) (dk ddX10_same 17 rfl) ?_
  rintro v_ G_ I_ L_ ⟨rfl, rfl, rfl, rfl⟩
  refine x_aload_n C (dk ddX10_same 18 rfl) rfl ?_
  refine x_getr C flX10_79 rfl (by have h_ := hC.1; omega) hC.fld.1 (show ax_R G a 12 = some (a + 615) from hC.fld.2.2 (12, 615) (by decide)) (dk ddX10_same 19 rfl) ?_
  refine x_aload_n C (dk ddX10_same 20 rfl) rfl ?_
  refine x_getr C flX10_83 rfl (by have h_ := hC.1; omega) hC.fld.1 (show ax_R G a 13 = some (a + 617) from hC.fld.2.2 (13, 617) (by decide)) (dk ddX10_same 21 rfl) ?_
  refine x_callV C (ci := 4) (As := [.ref (a + 617)]) (k_X4_haveSameOwnD l D T o (d - 1) G (ax_wrI (ax_wrI I a g (a + 615) gn) a h (a + 617) gn) (ax_wrL (ax_wrI I a g (a + 615) gn) (ax_wrL I L a g (a + 616) gn gc) a h (a + 618) gn gc) (a + 615) (a + 616) (gn g) (a + 617) (a + 618) (gn h) hC.rings (by repeat (first | exact ax_u_at _ _ _ _ | rw [ax_u_ne (by omega)] | rw [ax_u_nj (by decide)] | rw [ax_sc_ne (by omega)] | unfold ax_wrI | unfold ax_ldI | unfold ax_woI | unfold ax_rxI | unfold ax_frI0 | unfold ax_frI1 | unfold ax_frI2 | rw [hI_ _ (by omega)] | rw [hN_ (by omega)])) (Nat.le_trans (hgn g (by omega)).2 (by decide)) hC.otherRings (by repeat (first | exact ax_u_at _ _ _ _ | rw [ax_u_ne (by omega)] | rw [ax_u_nj (by decide)] | rw [ax_sc_ne (by omega)] | unfold ax_wrI | unfold ax_ldI | unfold ax_woI | unfold ax_rxI | unfold ax_frI0 | unfold ax_frI1 | unfold ax_frI2 | rw [hI_ _ (by omega)] | rw [hN_ (by omega)])) (Nat.le_trans (hgn h (by omega)).2 (by decide)) (by omega)) mlX10_171 rfl rfl hC.rings.1 hC.rings.2.1 ⟨by show d - 1 + 1 ≤ d; omega, by show 40 * (d - 1 + 1) ≤ 40 * d; omega⟩ ⟨Nat.le_refl _, Nat.le_refl _⟩ rfl (Nat.le_of_ble_eq_true rfl) (dk ddX10_same 22 rfl) ?_
  rintro v_ G_ I_ L_ ⟨rfl, rfl, rfl, rfl⟩
  refine x_if_eq_b C (tgt := 52) (dk ddX10_same 23 rfl) (by decide) (fun h45 => ?_) (fun h45 => ?_)
  · refine x_iconst C (v := nI 0) (dk ddX10_same 26 rfl) (by decide) ?_
    exact x_iret C rfl ⟨(by unfold ax_samv; rw [if_neg (Bool.eq_false_iff.mp h45)] <;> rfl), rfl, rfl, rfl⟩ rfl rfl (dk ddX10_same 27 rfl)
  · refine x_iconst C (v := nI 1) (dk ddX10_same 24 rfl) (by decide) ?_
    refine x_goto C (tgt := 53) (dk ddX10_same 25 rfl) (by decide) ?_
    exact x_iret C rfl ⟨(by unfold ax_samv; rw [if_pos h45] <;> rfl), rfl, rfl, rfl⟩ rfl rfl (dk ddX10_same 27 rfl)
set_option maxRecDepth 20000 in
/-- ofTwo, refused -/
theorem k_X10_ofTwo_bad (l : Launch) (D : va_G) (T : Nat → ClassId) (o d : Nat) (G : ax_G) (I : ax_I) (L : ax_L) (a : Nat) (u g h k : Int32) (hC : ax_Cls G a) (hbad : u < 0 ∨ nI 4 < u ∨ ax_rng g 6 = false ∨ ax_rng h 6 = false ∨ k < -1) (hd : 3 ≤ d) : ax_Con l D T o yX10_ofTwo cX10_ofTwo 5 (some .int) d 0 0 [.ref a, .int u, .int g, .int h, .int k] G I L (fun zz G' I' L' => zz = some (.int ((-1))) ∧ G = G' ∧ I = I' ∧ L = L') := by
  refine ax_enter (by decide +kernel) (Nat.le_of_ble_eq_true rfl) ?_
  intro p_ e_ s_ m_ args_ below_ meth_ c_ C _
  refine x_lvs (lv' := [(0, .ref a), (1, .int u), (2, .int g), (3, .int h), (4, .int k)]) rfl ?_
  refine x_iload_n C (dk ddX10_ofTwo 0 rfl) rfl ?_
  refine x_if_lt C (tgt := 29) (dk ddX10_ofTwo 1 rfl) (by decide) (fun h1 => ?_) (fun h1 => ?_)
  · have h1c := Int32.not_le.mpr h1
    refine x_iconst C (v := (-1)) (dk ddX10_ofTwo 14 rfl) (by decide) ?_
    exact x_iret C rfl ⟨rfl, rfl, rfl, rfl⟩ rfl rfl (dk ddX10_ofTwo 15 rfl)
  · have h1c := Int32.not_lt.mp h1
    refine x_iload_n C (dk ddX10_ofTwo 2 rfl) rfl ?_
    refine x_iconst C (v := nI 4) (dk ddX10_ofTwo 3 rfl) (by decide) ?_
    refine x_icmp_gt C (tgt := 29) (dk ddX10_ofTwo 4 rfl) (by decide) (fun h6 => ?_) (fun h6 => ?_)
    · have h6c := Int32.not_le.mpr h6
      refine x_iconst C (v := (-1)) (dk ddX10_ofTwo 14 rfl) (by decide) ?_
      exact x_iret C rfl ⟨rfl, rfl, rfl, rfl⟩ rfl rfl (dk ddX10_ofTwo 15 rfl)
    · have h6c := Int32.not_lt.mp h6
      refine x_iload_n C (dk ddX10_ofTwo 5 rfl) rfl ?_
      refine x_callS C (As := [.int g]) (k_X10_isGroup l D T o (d - 1) G I L g) mlX10_98 ⟨by show d - 1 + 1 ≤ d; omega, by show 40 * (d - 1 + 1) ≤ 40 * d; omega⟩ ⟨Nat.le_refl _, Nat.le_refl _⟩ rfl (Nat.le_of_ble_eq_true rfl) (dk ddX10_ofTwo 6 rfl) ?_
      rintro v_ G_ I_ L_ ⟨rfl, rfl, rfl, rfl⟩
      refine x_if_eq_b C (tgt := 29) (dk ddX10_ofTwo 7 rfl) (by decide) (fun h13 => ?_) (fun h13 => ?_)
      · refine x_iconst C (v := (-1)) (dk ddX10_ofTwo 14 rfl) (by decide) ?_
        exact x_iret C rfl ⟨rfl, rfl, rfl, rfl⟩ rfl rfl (dk ddX10_ofTwo 15 rfl)
      · refine x_iload_n C (dk ddX10_ofTwo 8 rfl) rfl ?_
        refine x_callS C (As := [.int h]) (k_X10_isGroup l D T o (d - 1) G I L h) mlX10_98 ⟨by show d - 1 + 1 ≤ d; omega, by show 40 * (d - 1 + 1) ≤ 40 * d; omega⟩ ⟨Nat.le_refl _, Nat.le_refl _⟩ rfl (Nat.le_of_ble_eq_true rfl) (dk ddX10_ofTwo 9 rfl) ?_
        rintro v_ G_ I_ L_ ⟨rfl, rfl, rfl, rfl⟩
        refine x_if_eq_b C (tgt := 29) (dk ddX10_ofTwo 10 rfl) (by decide) (fun h20 => ?_) (fun h20 => ?_)
        · refine x_iconst C (v := (-1)) (dk ddX10_ofTwo 14 rfl) (by decide) ?_
          exact x_iret C rfl ⟨rfl, rfl, rfl, rfl⟩ rfl rfl (dk ddX10_ofTwo 15 rfl)
        · refine x_iload C (dk ddX10_ofTwo 11 rfl) rfl ?_
          refine x_iconst C (v := (-1)) (dk ddX10_ofTwo 12 rfl) (by decide) ?_
          refine x_icmp_ge C (tgt := 31) (dk ddX10_ofTwo 13 rfl) (by decide) (fun h26 => ?_) (fun h26 => ?_)
          · have h26c := Int32.not_lt.mpr h26
            exfalso
            rcases hbad with hq_ | hq_ | hq_ | hq_ | hq_ <;> first | exact absurd hq_ (by assumption) | (simp_all; done)
          · have h26c := Int32.not_le.mp h26
            refine x_iconst C (v := (-1)) (dk ddX10_ofTwo 14 rfl) (by decide) ?_
            exact x_iret C rfl ⟨rfl, rfl, rfl, rfl⟩ rfl rfl (dk ddX10_ofTwo 15 rfl)
def ax_otI0_many (I : ax_I) (a : Nat) (g : Nat) (h : Nat) (gn : Nat → Nat) : ax_I := ax_u (ax_wrI (ax_wrI I a g (a + 615) gn) a h (a + 617) gn) (a + 619) 1 (nI ((gn h) * (gn g)))
def ax_otL0_many (I : ax_I) (L : ax_L) (a : Nat) (g : Nat) (h : Nat) (gn : Nat → Nat) (gc : Nat → Nat) : ax_L := ax_edn (a + 620) ((gn h) * (gn g)) ((gn h) * (gn g)) (ax_tp0 (a + 620) (a + 616) (a + 618) (gn h) (gn g) (ax_wrL (ax_wrI I a g (a + 615) gn) (ax_wrL I L a g (a + 616) gn gc) a h (a + 618) gn gc))
def ax_otv0_many (I : ax_I) (L : ax_L) (a : Nat) (g : Nat) (h : Nat) (gn : Nat → Nat) (gc : Nat → Nat) : Int32 := nI (ax_cn ((ax_edn (a + 620) ((gn h) * (gn g)) ((gn h) * (gn g)) (ax_tp0 (a + 620) (a + 616) (a + 618) (gn h) (gn g) (ax_wrL (ax_wrI I a g (a + 615) gn) (ax_wrL I L a g (a + 616) gn gc) a h (a + 618) gn gc))) (a + 620)) ((gn h) * (gn g)))
set_option maxRecDepth 20000 in
/-- ofTwo(0, g, h, ..) -/
theorem k_X10_ofTwo_0_many (l : Launch) (D : va_G) (T : Nat → ClassId) (o d : Nat) (G : ax_G) (I : ax_I) (L : ax_L) (a g h : Nat) (gn gc : Nat → Nat) (hC : ax_Cls G a) (hgn : ∀ g, g < 6 → I (a + 1 + 1) g = nI (gn g) ∧ gn g ≤ 3) (hgc : ∀ g, g < 6 → I (a + 1 + 2) g = nI (gc g) ∧ gc g ≤ 4) (hg : g < 6) (hh : h < 6) (hd : 6 ≤ d) : ax_Con l D T o yX10_ofTwo cX10_ofTwo 5 (some .int) d 0 0 [.ref a, .int (nI 0), .int (nI g), .int (nI h), .int (-1)] G I L (fun zz G' I' L' => zz = some (.int (ax_otv0_many I L a g h gn gc)) ∧ G = G' ∧ (ax_otI0_many I a g h gn) = I' ∧ (ax_otL0_many I L a g h gn gc) = L') := by
  refine ax_enter (by decide +kernel) (Nat.le_of_ble_eq_true rfl) ?_
  intro p_ e_ s_ m_ args_ below_ meth_ c_ C _
  refine x_lvs (lv' := [(0, .ref a), (1, .int (nI 0)), (2, .int (nI g)), (3, .int (nI h)), (4, .int (-1))]) rfl ?_
  have hb_ := (hgn g hg).2
  have hb2_ := (hgn h hh).2
  have hm_ : gn h * gn g ≤ 3 * 3 := Nat.mul_le_mul hb2_ hb_
  refine x_iload_n C (dk ddX10_ofTwo 0 rfl) rfl ?_
  refine x_if_lt_n C (tgt := 29) (dk ddX10_ofTwo 1 rfl) (by decide) (by decide) (fun h_ => absurd h_ (by decide)) (fun _ => ?_)
  refine x_iload_n C (dk ddX10_ofTwo 2 rfl) rfl ?_
  refine x_iconst C (v := nI 4) (dk ddX10_ofTwo 3 rfl) (by decide) ?_
  refine x_icmp_gt_n C (tgt := 29) (dk ddX10_ofTwo 4 rfl) (by decide) (by decide) (by decide) (fun h_ => absurd h_ (by decide)) (fun _ => ?_)
  refine x_iload_n C (dk ddX10_ofTwo 5 rfl) rfl ?_
  refine x_callS C (As := [.int (nI g)]) (k_X10_isGroup l D T o (d - 1) G I L (nI g)) mlX10_98 ⟨by show d - 1 + 1 ≤ d; omega, by show 40 * (d - 1 + 1) ≤ 40 * d; omega⟩ ⟨Nat.le_refl _, Nat.le_refl _⟩ rfl (Nat.le_of_ble_eq_true rfl) (dk ddX10_ofTwo 6 rfl) ?_
  rintro v_ G_ I_ L_ ⟨rfl, rfl, rfl, rfl⟩
  rw [show (ax_rng (nI g) 6) = true from ax_rng_ok (h := 6) (by omega) (by decide)]
  refine x_if_eq_b C (tgt := 29) (dk ddX10_ofTwo 7 rfl) (by decide) (fun h_ => absurd h_ (by decide)) (fun _ => ?_)
  refine x_iload_n C (dk ddX10_ofTwo 8 rfl) rfl ?_
  refine x_callS C (As := [.int (nI h)]) (k_X10_isGroup l D T o (d - 1) G I L (nI h)) mlX10_98 ⟨by show d - 1 + 1 ≤ d; omega, by show 40 * (d - 1 + 1) ≤ 40 * d; omega⟩ ⟨Nat.le_refl _, Nat.le_refl _⟩ rfl (Nat.le_of_ble_eq_true rfl) (dk ddX10_ofTwo 9 rfl) ?_
  rintro v_ G_ I_ L_ ⟨rfl, rfl, rfl, rfl⟩
  rw [show (ax_rng (nI h) 6) = true from ax_rng_ok (h := 6) (by omega) (by decide)]
  refine x_if_eq_b C (tgt := 29) (dk ddX10_ofTwo 10 rfl) (by decide) (fun h_ => absurd h_ (by decide)) (fun _ => ?_)
  refine x_iload C (dk ddX10_ofTwo 11 rfl) rfl ?_
  refine x_iconst C (v := (-1)) (dk ddX10_ofTwo 12 rfl) (by decide) ?_
  refine x_icmp_ge C (tgt := 31) (dk ddX10_ofTwo 13 rfl) (by decide) (fun _ => ?_) (fun h_ => absurd h_ (by decide))
  refine x_aload_n C (dk ddX10_ofTwo 16 rfl) rfl ?_
  refine x_iload_n C (dk ddX10_ofTwo 17 rfl) rfl ?_
  refine x_aload_n C (dk ddX10_ofTwo 18 rfl) rfl ?_
  refine x_getr C flX10_79 rfl (by have h_ := hC.1; omega) hC.fld.1 (show ax_R G a 12 = some (a + 615) from hC.fld.2.2 (12, 615) (by decide)) (dk ddX10_ofTwo 19 rfl) ?_
  refine x_callV C (ci := 10) (As := [.int (nI g), .ref (a + 615)]) (k_X10_workOutRings l D T o (d - 1) G I L a g (a + 615) (a + 616) gn gc hC (fun g hg => ⟨(by repeat (first | exact ax_u_at _ _ _ _ | exact (hgn g hg).1 | rw [ax_u_ne (by omega)] | rw [ax_u_nj (by decide)] | rw [ax_sc_ne (by omega)] | unfold ax_wrI | unfold ax_ldI | unfold ax_woI | unfold ax_rxI | unfold ax_frI0 | unfold ax_frI1 | unfold ax_frI2 | rw [hI_ _ (by omega)] | rw [hN_ (by omega)])), (hgn g hg).2⟩) (fun g hg => ⟨(by repeat (first | exact ax_u_at _ _ _ _ | exact (hgc g hg).1 | rw [ax_u_ne (by omega)] | rw [ax_u_nj (by decide)] | rw [ax_sc_ne (by omega)] | unfold ax_wrI | unfold ax_ldI | unfold ax_woI | unfold ax_rxI | unfold ax_frI0 | unfold ax_frI1 | unfold ax_frI2 | rw [hI_ _ (by omega)] | rw [hN_ (by omega)])), (hgc g hg).2⟩) (by omega) hC.rings (by omega) (by omega)) mlX10_129 rfl rfl (by have h_ := hC.1; omega) hC.fld.1 ⟨by show d - 1 + 1 ≤ d; omega, by show 40 * (d - 1 + 1) ≤ 40 * d; omega⟩ ⟨Nat.le_refl _, Nat.le_refl _⟩ rfl (Nat.le_of_ble_eq_true rfl) (dk ddX10_ofTwo 20 rfl) ?_
  rintro v_ G_ I_ L_ ⟨rfl, rfl, rfl, rfl⟩
  refine x_aload_n C (dk ddX10_ofTwo 21 rfl) rfl ?_
  refine x_iload_n C (dk ddX10_ofTwo 22 rfl) rfl ?_
  refine x_aload_n C (dk ddX10_ofTwo 23 rfl) rfl ?_
  refine x_getr C flX10_83 rfl (by have h_ := hC.1; omega) hC.fld.1 (show ax_R G a 13 = some (a + 617) from hC.fld.2.2 (13, 617) (by decide)) (dk ddX10_ofTwo 24 rfl) ?_
  refine x_callV C (ci := 10) (As := [.int (nI h), .ref (a + 617)]) (k_X10_workOutRings l D T o (d - 1) G (ax_wrI I a g (a + 615) gn) (ax_wrL I L a g (a + 616) gn gc) a h (a + 617) (a + 618) gn gc hC (fun g hg => ⟨(by repeat (first | exact ax_u_at _ _ _ _ | exact (hgn g hg).1 | rw [ax_u_ne (by omega)] | rw [ax_u_nj (by decide)] | rw [ax_sc_ne (by omega)] | unfold ax_wrI | unfold ax_ldI | unfold ax_woI | unfold ax_rxI | unfold ax_frI0 | unfold ax_frI1 | unfold ax_frI2 | rw [hI_ _ (by omega)] | rw [hN_ (by omega)])), (hgn g hg).2⟩) (fun g hg => ⟨(by repeat (first | exact ax_u_at _ _ _ _ | exact (hgc g hg).1 | rw [ax_u_ne (by omega)] | rw [ax_u_nj (by decide)] | rw [ax_sc_ne (by omega)] | unfold ax_wrI | unfold ax_ldI | unfold ax_woI | unfold ax_rxI | unfold ax_frI0 | unfold ax_frI1 | unfold ax_frI2 | rw [hI_ _ (by omega)] | rw [hN_ (by omega)])), (hgc g hg).2⟩) (by omega) hC.otherRings (by omega) (by omega)) mlX10_129 rfl rfl (by have h_ := hC.1; omega) hC.fld.1 ⟨by show d - 1 + 1 ≤ d; omega, by show 40 * (d - 1 + 1) ≤ 40 * d; omega⟩ ⟨Nat.le_refl _, Nat.le_refl _⟩ rfl (Nat.le_of_ble_eq_true rfl) (dk ddX10_ofTwo 25 rfl) ?_
  rintro v_ G_ I_ L_ ⟨rfl, rfl, rfl, rfl⟩
  refine x_aload_n C (dk ddX10_ofTwo 26 rfl) rfl ?_
  refine x_getr C flX10_86 rfl (by have h_ := hC.1; omega) hC.fld.1 (show ax_R G a 14 = some (a + 619) from hC.fld.2.2 (14, 619) (by decide)) (dk ddX10_ofTwo 27 rfl) ?_
  refine x_iload_n C (dk ddX10_ofTwo 28 rfl) rfl ?_
  refine x_aload_n C (dk ddX10_ofTwo 29 rfl) rfl ?_
  refine x_getr C flX10_79 rfl (by have h_ := hC.1; omega) hC.fld.1 (show ax_R G a 12 = some (a + 615) from hC.fld.2.2 (12, 615) (by decide)) (dk ddX10_ofTwo 30 rfl) ?_
  refine x_aload_n C (dk ddX10_ofTwo 31 rfl) rfl ?_
  refine x_getr C flX10_83 rfl (by have h_ := hC.1; omega) hC.fld.1 (show ax_R G a 13 = some (a + 617) from hC.fld.2.2 (13, 617) (by decide)) (dk ddX10_ofTwo 32 rfl) ?_
  refine x_callV C (ci := 4) (As := [.int (nI 0), .ref (a + 615), .ref (a + 617)]) (k_X4_ofTwoGroups_0 l D T o (d - 1) G (ax_wrI (ax_wrI I a g (a + 615) gn) a h (a + 617) gn) (ax_wrL (ax_wrI I a g (a + 615) gn) (ax_wrL I L a g (a + 616) gn gc) a h (a + 618) gn gc) (a + 619) (a + 620) (a + 615) (a + 616) (gn g) (a + 617) (a + 618) (gn h) hC.pairRings hC.rings (by repeat (first | exact ax_u_at _ _ _ _ | rw [ax_u_ne (by omega)] | rw [ax_u_nj (by decide)] | rw [ax_sc_ne (by omega)] | unfold ax_wrI | unfold ax_ldI | unfold ax_woI | unfold ax_rxI | unfold ax_frI0 | unfold ax_frI1 | unfold ax_frI2 | rw [hI_ _ (by omega)] | rw [hN_ (by omega)])) hC.otherRings (by repeat (first | exact ax_u_at _ _ _ _ | rw [ax_u_ne (by omega)] | rw [ax_u_nj (by decide)] | rw [ax_sc_ne (by omega)] | unfold ax_wrI | unfold ax_ldI | unfold ax_woI | unfold ax_rxI | unfold ax_frI0 | unfold ax_frI1 | unfold ax_frI2 | rw [hI_ _ (by omega)] | rw [hN_ (by omega)])) (by omega) (by omega) (hgn g (by omega)).2 (hgn h (by omega)).2 (by omega)) mlX10_175 rfl rfl hC.pairRings.1 hC.pairRings.2.1 ⟨by show d - 1 + 1 ≤ d; omega, by show 40 * (d - 1 + 1) ≤ 40 * d; omega⟩ ⟨Nat.le_refl _, Nat.le_refl _⟩ rfl (Nat.le_of_ble_eq_true rfl) (dk ddX10_ofTwo 33 rfl) ?_
  rintro v_ G_ I_ L_ ⟨rfl, rfl, rfl, rfl⟩
  refine x_aload_n C (dk ddX10_ofTwo 34 rfl) rfl ?_
  refine x_getr C flX10_86 rfl (by have h_ := hC.1; omega) hC.fld.1 (show ax_R G a 14 = some (a + 619) from hC.fld.2.2 (14, 619) (by decide)) (dk ddX10_ofTwo 35 rfl) ?_
  refine x_iload C (dk ddX10_ofTwo 36 rfl) rfl ?_
  refine x_callS C (As := [.ref (a + 619), .int (-1)]) (k_X10_ownRing_many l D T o (d - 1) G (ax_u (ax_wrI (ax_wrI I a g (a + 615) gn) a h (a + 617) gn) (a + 619) 1 (nI ((gn h) * (gn g)))) (ax_edn (a + 620) ((gn h) * (gn g)) ((gn h) * (gn g)) (ax_tp0 (a + 620) (a + 616) (a + 618) (gn h) (gn g) (ax_wrL (ax_wrI I a g (a + 615) gn) (ax_wrL I L a g (a + 616) gn gc) a h (a + 618) gn gc))) (a + 619) (a + 620) ((gn h) * (gn g)) hC.pairRings (by repeat (first | exact ax_u_at _ _ _ _ | rw [ax_u_ne (by omega)] | rw [ax_u_nj (by decide)] | rw [ax_sc_ne (by omega)] | unfold ax_ldI | unfold ax_woI | unfold ax_rxI | unfold ax_frI0 | unfold ax_frI1 | unfold ax_frI2 | rw [hI_ _ (by omega)] | rw [hN_ (by omega)])) (by omega) (by omega)) mlX10_179 ⟨by show d - 1 + 1 ≤ d; omega, by show 40 * (d - 1 + 1) ≤ 40 * d; omega⟩ ⟨Nat.le_refl _, Nat.le_refl _⟩ rfl (Nat.le_of_ble_eq_true rfl) (dk ddX10_ofTwo 37 rfl) ?_
  rintro v_ G_ I_ L_ ⟨rfl, rfl, rfl, rfl⟩
  exact x_iret C rfl ⟨rfl, rfl, rfl, rfl⟩ rfl rfl (dk ddX10_ofTwo 38 rfl)
def ax_otI0 (I : ax_I) (a : Nat) (g : Nat) (h : Nat) (gn : Nat → Nat) : ax_I := ax_u (ax_wrI (ax_wrI I a g (a + 615) gn) a h (a + 617) gn) (a + 619) 1 (nI ((gn h) * (gn g)))
def ax_otL0 (I : ax_I) (L : ax_L) (a : Nat) (g : Nat) (h : Nat) (gn : Nat → Nat) (gc : Nat → Nat) : ax_L := ax_edn (a + 620) ((gn h) * (gn g)) ((gn h) * (gn g)) (ax_tp0 (a + 620) (a + 616) (a + 618) (gn h) (gn g) (ax_wrL (ax_wrI I a g (a + 615) gn) (ax_wrL I L a g (a + 616) gn gc) a h (a + 618) gn gc))
def ax_otv0 (I : ax_I) (L : ax_L) (a : Nat) (g : Nat) (h : Nat) (k : Nat) (gn : Nat → Nat) (gc : Nat → Nat) : Int32 := if ax_cn ((ax_edn (a + 620) ((gn h) * (gn g)) ((gn h) * (gn g)) (ax_tp0 (a + 620) (a + 616) (a + 618) (gn h) (gn g) (ax_wrL (ax_wrI I a g (a + 615) gn) (ax_wrL I L a g (a + 616) gn gc) a h (a + 618) gn gc))) (a + 620)) ((gn h) * (gn g)) ≤ k then (-3) else (ax_owc ((ax_edn (a + 620) ((gn h) * (gn g)) ((gn h) * (gn g)) (ax_tp0 (a + 620) (a + 616) (a + 618) (gn h) (gn g) (ax_wrL (ax_wrI I a g (a + 615) gn) (ax_wrL I L a g (a + 616) gn gc) a h (a + 618) gn gc))) (a + 620)) ((gn h) * (gn g)) k).toInt32
set_option maxRecDepth 20000 in
/-- ofTwo(0, g, h, ..) -/
theorem k_X10_ofTwo_0 (l : Launch) (D : va_G) (T : Nat → ClassId) (o d : Nat) (G : ax_G) (I : ax_I) (L : ax_L) (a g h k : Nat) (gn gc : Nat → Nat) (hC : ax_Cls G a) (hgn : ∀ g, g < 6 → I (a + 1 + 1) g = nI (gn g) ∧ gn g ≤ 3) (hgc : ∀ g, g < 6 → I (a + 1 + 2) g = nI (gc g) ∧ gc g ≤ 4) (hg : g < 6) (hh : h < 6) (hk : k < 2 ^ 31) (hd : 6 ≤ d) : ax_Con l D T o yX10_ofTwo cX10_ofTwo 5 (some .int) d 0 0 [.ref a, .int (nI 0), .int (nI g), .int (nI h), .int (nI k)] G I L (fun zz G' I' L' => zz = some (.int (ax_otv0 I L a g h k gn gc)) ∧ G = G' ∧ (ax_otI0 I a g h gn) = I' ∧ (ax_otL0 I L a g h gn gc) = L') := by
  refine ax_enter (by decide +kernel) (Nat.le_of_ble_eq_true rfl) ?_
  intro p_ e_ s_ m_ args_ below_ meth_ c_ C _
  refine x_lvs (lv' := [(0, .ref a), (1, .int (nI 0)), (2, .int (nI g)), (3, .int (nI h)), (4, .int (nI k))]) rfl ?_
  have hb_ := (hgn g hg).2
  have hb2_ := (hgn h hh).2
  have hm_ : gn h * gn g ≤ 3 * 3 := Nat.mul_le_mul hb2_ hb_
  refine x_iload_n C (dk ddX10_ofTwo 0 rfl) rfl ?_
  refine x_if_lt_n C (tgt := 29) (dk ddX10_ofTwo 1 rfl) (by decide) (by decide) (fun h_ => absurd h_ (by decide)) (fun _ => ?_)
  refine x_iload_n C (dk ddX10_ofTwo 2 rfl) rfl ?_
  refine x_iconst C (v := nI 4) (dk ddX10_ofTwo 3 rfl) (by decide) ?_
  refine x_icmp_gt_n C (tgt := 29) (dk ddX10_ofTwo 4 rfl) (by decide) (by decide) (by decide) (fun h_ => absurd h_ (by decide)) (fun _ => ?_)
  refine x_iload_n C (dk ddX10_ofTwo 5 rfl) rfl ?_
  refine x_callS C (As := [.int (nI g)]) (k_X10_isGroup l D T o (d - 1) G I L (nI g)) mlX10_98 ⟨by show d - 1 + 1 ≤ d; omega, by show 40 * (d - 1 + 1) ≤ 40 * d; omega⟩ ⟨Nat.le_refl _, Nat.le_refl _⟩ rfl (Nat.le_of_ble_eq_true rfl) (dk ddX10_ofTwo 6 rfl) ?_
  rintro v_ G_ I_ L_ ⟨rfl, rfl, rfl, rfl⟩
  rw [show (ax_rng (nI g) 6) = true from ax_rng_ok (h := 6) (by omega) (by decide)]
  refine x_if_eq_b C (tgt := 29) (dk ddX10_ofTwo 7 rfl) (by decide) (fun h_ => absurd h_ (by decide)) (fun _ => ?_)
  refine x_iload_n C (dk ddX10_ofTwo 8 rfl) rfl ?_
  refine x_callS C (As := [.int (nI h)]) (k_X10_isGroup l D T o (d - 1) G I L (nI h)) mlX10_98 ⟨by show d - 1 + 1 ≤ d; omega, by show 40 * (d - 1 + 1) ≤ 40 * d; omega⟩ ⟨Nat.le_refl _, Nat.le_refl _⟩ rfl (Nat.le_of_ble_eq_true rfl) (dk ddX10_ofTwo 9 rfl) ?_
  rintro v_ G_ I_ L_ ⟨rfl, rfl, rfl, rfl⟩
  rw [show (ax_rng (nI h) 6) = true from ax_rng_ok (h := 6) (by omega) (by decide)]
  refine x_if_eq_b C (tgt := 29) (dk ddX10_ofTwo 10 rfl) (by decide) (fun h_ => absurd h_ (by decide)) (fun _ => ?_)
  refine x_iload C (dk ddX10_ofTwo 11 rfl) rfl ?_
  refine x_iconst C (v := (-1)) (dk ddX10_ofTwo 12 rfl) (by decide) ?_
  refine x_icmp_ge C (tgt := 31) (dk ddX10_ofTwo 13 rfl) (by decide) (fun h26 => ?_) (fun h26 => ?_)
  · have h26c := Int32.not_lt.mpr h26
    refine x_aload_n C (dk ddX10_ofTwo 16 rfl) rfl ?_
    refine x_iload_n C (dk ddX10_ofTwo 17 rfl) rfl ?_
    refine x_aload_n C (dk ddX10_ofTwo 18 rfl) rfl ?_
    refine x_getr C flX10_79 rfl (by have h_ := hC.1; omega) hC.fld.1 (show ax_R G a 12 = some (a + 615) from hC.fld.2.2 (12, 615) (by decide)) (dk ddX10_ofTwo 19 rfl) ?_
    refine x_callV C (ci := 10) (As := [.int (nI g), .ref (a + 615)]) (k_X10_workOutRings l D T o (d - 1) G I L a g (a + 615) (a + 616) gn gc hC (fun g hg => ⟨(by repeat (first | exact ax_u_at _ _ _ _ | exact (hgn g hg).1 | rw [ax_u_ne (by omega)] | rw [ax_u_nj (by decide)] | rw [ax_sc_ne (by omega)] | unfold ax_wrI | unfold ax_ldI | unfold ax_woI | unfold ax_rxI | unfold ax_frI0 | unfold ax_frI1 | unfold ax_frI2 | rw [hI_ _ (by omega)] | rw [hN_ (by omega)])), (hgn g hg).2⟩) (fun g hg => ⟨(by repeat (first | exact ax_u_at _ _ _ _ | exact (hgc g hg).1 | rw [ax_u_ne (by omega)] | rw [ax_u_nj (by decide)] | rw [ax_sc_ne (by omega)] | unfold ax_wrI | unfold ax_ldI | unfold ax_woI | unfold ax_rxI | unfold ax_frI0 | unfold ax_frI1 | unfold ax_frI2 | rw [hI_ _ (by omega)] | rw [hN_ (by omega)])), (hgc g hg).2⟩) (by omega) hC.rings (by omega) (by omega)) mlX10_129 rfl rfl (by have h_ := hC.1; omega) hC.fld.1 ⟨by show d - 1 + 1 ≤ d; omega, by show 40 * (d - 1 + 1) ≤ 40 * d; omega⟩ ⟨Nat.le_refl _, Nat.le_refl _⟩ rfl (Nat.le_of_ble_eq_true rfl) (dk ddX10_ofTwo 20 rfl) ?_
    rintro v_ G_ I_ L_ ⟨rfl, rfl, rfl, rfl⟩
    refine x_aload_n C (dk ddX10_ofTwo 21 rfl) rfl ?_
    refine x_iload_n C (dk ddX10_ofTwo 22 rfl) rfl ?_
    refine x_aload_n C (dk ddX10_ofTwo 23 rfl) rfl ?_
    refine x_getr C flX10_83 rfl (by have h_ := hC.1; omega) hC.fld.1 (show ax_R G a 13 = some (a + 617) from hC.fld.2.2 (13, 617) (by decide)) (dk ddX10_ofTwo 24 rfl) ?_
    refine x_callV C (ci := 10) (As := [.int (nI h), .ref (a + 617)]) (k_X10_workOutRings l D T o (d - 1) G (ax_wrI I a g (a + 615) gn) (ax_wrL I L a g (a + 616) gn gc) a h (a + 617) (a + 618) gn gc hC (fun g hg => ⟨(by repeat (first | exact ax_u_at _ _ _ _ | exact (hgn g hg).1 | rw [ax_u_ne (by omega)] | rw [ax_u_nj (by decide)] | rw [ax_sc_ne (by omega)] | unfold ax_wrI | unfold ax_ldI | unfold ax_woI | unfold ax_rxI | unfold ax_frI0 | unfold ax_frI1 | unfold ax_frI2 | rw [hI_ _ (by omega)] | rw [hN_ (by omega)])), (hgn g hg).2⟩) (fun g hg => ⟨(by repeat (first | exact ax_u_at _ _ _ _ | exact (hgc g hg).1 | rw [ax_u_ne (by omega)] | rw [ax_u_nj (by decide)] | rw [ax_sc_ne (by omega)] | unfold ax_wrI | unfold ax_ldI | unfold ax_woI | unfold ax_rxI | unfold ax_frI0 | unfold ax_frI1 | unfold ax_frI2 | rw [hI_ _ (by omega)] | rw [hN_ (by omega)])), (hgc g hg).2⟩) (by omega) hC.otherRings (by omega) (by omega)) mlX10_129 rfl rfl (by have h_ := hC.1; omega) hC.fld.1 ⟨by show d - 1 + 1 ≤ d; omega, by show 40 * (d - 1 + 1) ≤ 40 * d; omega⟩ ⟨Nat.le_refl _, Nat.le_refl _⟩ rfl (Nat.le_of_ble_eq_true rfl) (dk ddX10_ofTwo 25 rfl) ?_
    rintro v_ G_ I_ L_ ⟨rfl, rfl, rfl, rfl⟩
    refine x_aload_n C (dk ddX10_ofTwo 26 rfl) rfl ?_
    refine x_getr C flX10_86 rfl (by have h_ := hC.1; omega) hC.fld.1 (show ax_R G a 14 = some (a + 619) from hC.fld.2.2 (14, 619) (by decide)) (dk ddX10_ofTwo 27 rfl) ?_
    refine x_iload_n C (dk ddX10_ofTwo 28 rfl) rfl ?_
    refine x_aload_n C (dk ddX10_ofTwo 29 rfl) rfl ?_
    refine x_getr C flX10_79 rfl (by have h_ := hC.1; omega) hC.fld.1 (show ax_R G a 12 = some (a + 615) from hC.fld.2.2 (12, 615) (by decide)) (dk ddX10_ofTwo 30 rfl) ?_
    refine x_aload_n C (dk ddX10_ofTwo 31 rfl) rfl ?_
    refine x_getr C flX10_83 rfl (by have h_ := hC.1; omega) hC.fld.1 (show ax_R G a 13 = some (a + 617) from hC.fld.2.2 (13, 617) (by decide)) (dk ddX10_ofTwo 32 rfl) ?_
    refine x_callV C (ci := 4) (As := [.int (nI 0), .ref (a + 615), .ref (a + 617)]) (k_X4_ofTwoGroups_0 l D T o (d - 1) G (ax_wrI (ax_wrI I a g (a + 615) gn) a h (a + 617) gn) (ax_wrL (ax_wrI I a g (a + 615) gn) (ax_wrL I L a g (a + 616) gn gc) a h (a + 618) gn gc) (a + 619) (a + 620) (a + 615) (a + 616) (gn g) (a + 617) (a + 618) (gn h) hC.pairRings hC.rings (by repeat (first | exact ax_u_at _ _ _ _ | rw [ax_u_ne (by omega)] | rw [ax_u_nj (by decide)] | rw [ax_sc_ne (by omega)] | unfold ax_wrI | unfold ax_ldI | unfold ax_woI | unfold ax_rxI | unfold ax_frI0 | unfold ax_frI1 | unfold ax_frI2 | rw [hI_ _ (by omega)] | rw [hN_ (by omega)])) hC.otherRings (by repeat (first | exact ax_u_at _ _ _ _ | rw [ax_u_ne (by omega)] | rw [ax_u_nj (by decide)] | rw [ax_sc_ne (by omega)] | unfold ax_wrI | unfold ax_ldI | unfold ax_woI | unfold ax_rxI | unfold ax_frI0 | unfold ax_frI1 | unfold ax_frI2 | rw [hI_ _ (by omega)] | rw [hN_ (by omega)])) (by omega) (by omega) (hgn g (by omega)).2 (hgn h (by omega)).2 (by omega)) mlX10_175 rfl rfl hC.pairRings.1 hC.pairRings.2.1 ⟨by show d - 1 + 1 ≤ d; omega, by show 40 * (d - 1 + 1) ≤ 40 * d; omega⟩ ⟨Nat.le_refl _, Nat.le_refl _⟩ rfl (Nat.le_of_ble_eq_true rfl) (dk ddX10_ofTwo 33 rfl) ?_
    rintro v_ G_ I_ L_ ⟨rfl, rfl, rfl, rfl⟩
    refine x_aload_n C (dk ddX10_ofTwo 34 rfl) rfl ?_
    refine x_getr C flX10_86 rfl (by have h_ := hC.1; omega) hC.fld.1 (show ax_R G a 14 = some (a + 619) from hC.fld.2.2 (14, 619) (by decide)) (dk ddX10_ofTwo 35 rfl) ?_
    refine x_iload C (dk ddX10_ofTwo 36 rfl) rfl ?_
    refine x_callS C (As := [.ref (a + 619), .int (nI k)]) (k_X10_ownRing l D T o (d - 1) G (ax_u (ax_wrI (ax_wrI I a g (a + 615) gn) a h (a + 617) gn) (a + 619) 1 (nI ((gn h) * (gn g)))) (ax_edn (a + 620) ((gn h) * (gn g)) ((gn h) * (gn g)) (ax_tp0 (a + 620) (a + 616) (a + 618) (gn h) (gn g) (ax_wrL (ax_wrI I a g (a + 615) gn) (ax_wrL I L a g (a + 616) gn gc) a h (a + 618) gn gc))) (a + 619) (a + 620) ((gn h) * (gn g)) k hC.pairRings (by repeat (first | exact ax_u_at _ _ _ _ | rw [ax_u_ne (by omega)] | rw [ax_u_nj (by decide)] | rw [ax_sc_ne (by omega)] | unfold ax_ldI | unfold ax_woI | unfold ax_rxI | unfold ax_frI0 | unfold ax_frI1 | unfold ax_frI2 | rw [hI_ _ (by omega)] | rw [hN_ (by omega)])) (by omega) (by omega) (by omega)) mlX10_179 ⟨by show d - 1 + 1 ≤ d; omega, by show 40 * (d - 1 + 1) ≤ 40 * d; omega⟩ ⟨Nat.le_refl _, Nat.le_refl _⟩ rfl (Nat.le_of_ble_eq_true rfl) (dk ddX10_ofTwo 37 rfl) ?_
    rintro v_ G_ I_ L_ ⟨rfl, rfl, rfl, rfl⟩
    exact x_iret C rfl ⟨rfl, rfl, rfl, rfl⟩ rfl rfl (dk ddX10_ofTwo 38 rfl)
  · have h26c := Int32.not_le.mp h26
    exfalso
    exact absurd (Int32.not_le.mp h26) (ax_nn1 (by omega))
def ax_otI1_many (I : ax_I) (a : Nat) (g : Nat) (h : Nat) (gn : Nat → Nat) : ax_I := ax_u (ax_wrI (ax_wrI I a g (a + 615) gn) a h (a + 617) gn) (a + 619) 1 (nI ((gn h) * (gn g)))
def ax_otL1_many (I : ax_I) (L : ax_L) (a : Nat) (g : Nat) (h : Nat) (gn : Nat → Nat) (gc : Nat → Nat) : ax_L := ax_edn (a + 620) ((gn h) * (gn g)) ((gn h) * (gn g)) (ax_tp1 (a + 620) (a + 616) (a + 618) (gn h) (gn g) (ax_wrL (ax_wrI I a g (a + 615) gn) (ax_wrL I L a g (a + 616) gn gc) a h (a + 618) gn gc))
def ax_otv1_many (I : ax_I) (L : ax_L) (a : Nat) (g : Nat) (h : Nat) (gn : Nat → Nat) (gc : Nat → Nat) : Int32 := nI (ax_cn ((ax_edn (a + 620) ((gn h) * (gn g)) ((gn h) * (gn g)) (ax_tp1 (a + 620) (a + 616) (a + 618) (gn h) (gn g) (ax_wrL (ax_wrI I a g (a + 615) gn) (ax_wrL I L a g (a + 616) gn gc) a h (a + 618) gn gc))) (a + 620)) ((gn h) * (gn g)))
set_option maxRecDepth 20000 in
/-- ofTwo(1, g, h, ..) -/
theorem k_X10_ofTwo_1_many (l : Launch) (D : va_G) (T : Nat → ClassId) (o d : Nat) (G : ax_G) (I : ax_I) (L : ax_L) (a g h : Nat) (gn gc : Nat → Nat) (hC : ax_Cls G a) (hgn : ∀ g, g < 6 → I (a + 1 + 1) g = nI (gn g) ∧ gn g ≤ 3) (hgc : ∀ g, g < 6 → I (a + 1 + 2) g = nI (gc g) ∧ gc g ≤ 4) (hg : g < 6) (hh : h < 6) (hd : 6 ≤ d) : ax_Con l D T o yX10_ofTwo cX10_ofTwo 5 (some .int) d 0 0 [.ref a, .int (nI 1), .int (nI g), .int (nI h), .int (-1)] G I L (fun zz G' I' L' => zz = some (.int (ax_otv1_many I L a g h gn gc)) ∧ G = G' ∧ (ax_otI1_many I a g h gn) = I' ∧ (ax_otL1_many I L a g h gn gc) = L') := by
  refine ax_enter (by decide +kernel) (Nat.le_of_ble_eq_true rfl) ?_
  intro p_ e_ s_ m_ args_ below_ meth_ c_ C _
  refine x_lvs (lv' := [(0, .ref a), (1, .int (nI 1)), (2, .int (nI g)), (3, .int (nI h)), (4, .int (-1))]) rfl ?_
  have hb_ := (hgn g hg).2
  have hb2_ := (hgn h hh).2
  have hm_ : gn h * gn g ≤ 3 * 3 := Nat.mul_le_mul hb2_ hb_
  refine x_iload_n C (dk ddX10_ofTwo 0 rfl) rfl ?_
  refine x_if_lt_n C (tgt := 29) (dk ddX10_ofTwo 1 rfl) (by decide) (by decide) (fun h_ => absurd h_ (by decide)) (fun _ => ?_)
  refine x_iload_n C (dk ddX10_ofTwo 2 rfl) rfl ?_
  refine x_iconst C (v := nI 4) (dk ddX10_ofTwo 3 rfl) (by decide) ?_
  refine x_icmp_gt_n C (tgt := 29) (dk ddX10_ofTwo 4 rfl) (by decide) (by decide) (by decide) (fun h_ => absurd h_ (by decide)) (fun _ => ?_)
  refine x_iload_n C (dk ddX10_ofTwo 5 rfl) rfl ?_
  refine x_callS C (As := [.int (nI g)]) (k_X10_isGroup l D T o (d - 1) G I L (nI g)) mlX10_98 ⟨by show d - 1 + 1 ≤ d; omega, by show 40 * (d - 1 + 1) ≤ 40 * d; omega⟩ ⟨Nat.le_refl _, Nat.le_refl _⟩ rfl (Nat.le_of_ble_eq_true rfl) (dk ddX10_ofTwo 6 rfl) ?_
  rintro v_ G_ I_ L_ ⟨rfl, rfl, rfl, rfl⟩
  rw [show (ax_rng (nI g) 6) = true from ax_rng_ok (h := 6) (by omega) (by decide)]
  refine x_if_eq_b C (tgt := 29) (dk ddX10_ofTwo 7 rfl) (by decide) (fun h_ => absurd h_ (by decide)) (fun _ => ?_)
  refine x_iload_n C (dk ddX10_ofTwo 8 rfl) rfl ?_
  refine x_callS C (As := [.int (nI h)]) (k_X10_isGroup l D T o (d - 1) G I L (nI h)) mlX10_98 ⟨by show d - 1 + 1 ≤ d; omega, by show 40 * (d - 1 + 1) ≤ 40 * d; omega⟩ ⟨Nat.le_refl _, Nat.le_refl _⟩ rfl (Nat.le_of_ble_eq_true rfl) (dk ddX10_ofTwo 9 rfl) ?_
  rintro v_ G_ I_ L_ ⟨rfl, rfl, rfl, rfl⟩
  rw [show (ax_rng (nI h) 6) = true from ax_rng_ok (h := 6) (by omega) (by decide)]
  refine x_if_eq_b C (tgt := 29) (dk ddX10_ofTwo 10 rfl) (by decide) (fun h_ => absurd h_ (by decide)) (fun _ => ?_)
  refine x_iload C (dk ddX10_ofTwo 11 rfl) rfl ?_
  refine x_iconst C (v := (-1)) (dk ddX10_ofTwo 12 rfl) (by decide) ?_
  refine x_icmp_ge C (tgt := 31) (dk ddX10_ofTwo 13 rfl) (by decide) (fun _ => ?_) (fun h_ => absurd h_ (by decide))
  refine x_aload_n C (dk ddX10_ofTwo 16 rfl) rfl ?_
  refine x_iload_n C (dk ddX10_ofTwo 17 rfl) rfl ?_
  refine x_aload_n C (dk ddX10_ofTwo 18 rfl) rfl ?_
  refine x_getr C flX10_79 rfl (by have h_ := hC.1; omega) hC.fld.1 (show ax_R G a 12 = some (a + 615) from hC.fld.2.2 (12, 615) (by decide)) (dk ddX10_ofTwo 19 rfl) ?_
  refine x_callV C (ci := 10) (As := [.int (nI g), .ref (a + 615)]) (k_X10_workOutRings l D T o (d - 1) G I L a g (a + 615) (a + 616) gn gc hC (fun g hg => ⟨(by repeat (first | exact ax_u_at _ _ _ _ | exact (hgn g hg).1 | rw [ax_u_ne (by omega)] | rw [ax_u_nj (by decide)] | rw [ax_sc_ne (by omega)] | unfold ax_wrI | unfold ax_ldI | unfold ax_woI | unfold ax_rxI | unfold ax_frI0 | unfold ax_frI1 | unfold ax_frI2 | rw [hI_ _ (by omega)] | rw [hN_ (by omega)])), (hgn g hg).2⟩) (fun g hg => ⟨(by repeat (first | exact ax_u_at _ _ _ _ | exact (hgc g hg).1 | rw [ax_u_ne (by omega)] | rw [ax_u_nj (by decide)] | rw [ax_sc_ne (by omega)] | unfold ax_wrI | unfold ax_ldI | unfold ax_woI | unfold ax_rxI | unfold ax_frI0 | unfold ax_frI1 | unfold ax_frI2 | rw [hI_ _ (by omega)] | rw [hN_ (by omega)])), (hgc g hg).2⟩) (by omega) hC.rings (by omega) (by omega)) mlX10_129 rfl rfl (by have h_ := hC.1; omega) hC.fld.1 ⟨by show d - 1 + 1 ≤ d; omega, by show 40 * (d - 1 + 1) ≤ 40 * d; omega⟩ ⟨Nat.le_refl _, Nat.le_refl _⟩ rfl (Nat.le_of_ble_eq_true rfl) (dk ddX10_ofTwo 20 rfl) ?_
  rintro v_ G_ I_ L_ ⟨rfl, rfl, rfl, rfl⟩
  refine x_aload_n C (dk ddX10_ofTwo 21 rfl) rfl ?_
  refine x_iload_n C (dk ddX10_ofTwo 22 rfl) rfl ?_
  refine x_aload_n C (dk ddX10_ofTwo 23 rfl) rfl ?_
  refine x_getr C flX10_83 rfl (by have h_ := hC.1; omega) hC.fld.1 (show ax_R G a 13 = some (a + 617) from hC.fld.2.2 (13, 617) (by decide)) (dk ddX10_ofTwo 24 rfl) ?_
  refine x_callV C (ci := 10) (As := [.int (nI h), .ref (a + 617)]) (k_X10_workOutRings l D T o (d - 1) G (ax_wrI I a g (a + 615) gn) (ax_wrL I L a g (a + 616) gn gc) a h (a + 617) (a + 618) gn gc hC (fun g hg => ⟨(by repeat (first | exact ax_u_at _ _ _ _ | exact (hgn g hg).1 | rw [ax_u_ne (by omega)] | rw [ax_u_nj (by decide)] | rw [ax_sc_ne (by omega)] | unfold ax_wrI | unfold ax_ldI | unfold ax_woI | unfold ax_rxI | unfold ax_frI0 | unfold ax_frI1 | unfold ax_frI2 | rw [hI_ _ (by omega)] | rw [hN_ (by omega)])), (hgn g hg).2⟩) (fun g hg => ⟨(by repeat (first | exact ax_u_at _ _ _ _ | exact (hgc g hg).1 | rw [ax_u_ne (by omega)] | rw [ax_u_nj (by decide)] | rw [ax_sc_ne (by omega)] | unfold ax_wrI | unfold ax_ldI | unfold ax_woI | unfold ax_rxI | unfold ax_frI0 | unfold ax_frI1 | unfold ax_frI2 | rw [hI_ _ (by omega)] | rw [hN_ (by omega)])), (hgc g hg).2⟩) (by omega) hC.otherRings (by omega) (by omega)) mlX10_129 rfl rfl (by have h_ := hC.1; omega) hC.fld.1 ⟨by show d - 1 + 1 ≤ d; omega, by show 40 * (d - 1 + 1) ≤ 40 * d; omega⟩ ⟨Nat.le_refl _, Nat.le_refl _⟩ rfl (Nat.le_of_ble_eq_true rfl) (dk ddX10_ofTwo 25 rfl) ?_
  rintro v_ G_ I_ L_ ⟨rfl, rfl, rfl, rfl⟩
  refine x_aload_n C (dk ddX10_ofTwo 26 rfl) rfl ?_
  refine x_getr C flX10_86 rfl (by have h_ := hC.1; omega) hC.fld.1 (show ax_R G a 14 = some (a + 619) from hC.fld.2.2 (14, 619) (by decide)) (dk ddX10_ofTwo 27 rfl) ?_
  refine x_iload_n C (dk ddX10_ofTwo 28 rfl) rfl ?_
  refine x_aload_n C (dk ddX10_ofTwo 29 rfl) rfl ?_
  refine x_getr C flX10_79 rfl (by have h_ := hC.1; omega) hC.fld.1 (show ax_R G a 12 = some (a + 615) from hC.fld.2.2 (12, 615) (by decide)) (dk ddX10_ofTwo 30 rfl) ?_
  refine x_aload_n C (dk ddX10_ofTwo 31 rfl) rfl ?_
  refine x_getr C flX10_83 rfl (by have h_ := hC.1; omega) hC.fld.1 (show ax_R G a 13 = some (a + 617) from hC.fld.2.2 (13, 617) (by decide)) (dk ddX10_ofTwo 32 rfl) ?_
  refine x_callV C (ci := 4) (As := [.int (nI 1), .ref (a + 615), .ref (a + 617)]) (k_X4_ofTwoGroups_1 l D T o (d - 1) G (ax_wrI (ax_wrI I a g (a + 615) gn) a h (a + 617) gn) (ax_wrL (ax_wrI I a g (a + 615) gn) (ax_wrL I L a g (a + 616) gn gc) a h (a + 618) gn gc) (a + 619) (a + 620) (a + 615) (a + 616) (gn g) (a + 617) (a + 618) (gn h) hC.pairRings hC.rings (by repeat (first | exact ax_u_at _ _ _ _ | rw [ax_u_ne (by omega)] | rw [ax_u_nj (by decide)] | rw [ax_sc_ne (by omega)] | unfold ax_wrI | unfold ax_ldI | unfold ax_woI | unfold ax_rxI | unfold ax_frI0 | unfold ax_frI1 | unfold ax_frI2 | rw [hI_ _ (by omega)] | rw [hN_ (by omega)])) hC.otherRings (by repeat (first | exact ax_u_at _ _ _ _ | rw [ax_u_ne (by omega)] | rw [ax_u_nj (by decide)] | rw [ax_sc_ne (by omega)] | unfold ax_wrI | unfold ax_ldI | unfold ax_woI | unfold ax_rxI | unfold ax_frI0 | unfold ax_frI1 | unfold ax_frI2 | rw [hI_ _ (by omega)] | rw [hN_ (by omega)])) (by omega) (by omega) (hgn g (by omega)).2 (hgn h (by omega)).2 (by omega)) mlX10_175 rfl rfl hC.pairRings.1 hC.pairRings.2.1 ⟨by show d - 1 + 1 ≤ d; omega, by show 40 * (d - 1 + 1) ≤ 40 * d; omega⟩ ⟨Nat.le_refl _, Nat.le_refl _⟩ rfl (Nat.le_of_ble_eq_true rfl) (dk ddX10_ofTwo 33 rfl) ?_
  rintro v_ G_ I_ L_ ⟨rfl, rfl, rfl, rfl⟩
  refine x_aload_n C (dk ddX10_ofTwo 34 rfl) rfl ?_
  refine x_getr C flX10_86 rfl (by have h_ := hC.1; omega) hC.fld.1 (show ax_R G a 14 = some (a + 619) from hC.fld.2.2 (14, 619) (by decide)) (dk ddX10_ofTwo 35 rfl) ?_
  refine x_iload C (dk ddX10_ofTwo 36 rfl) rfl ?_
  refine x_callS C (As := [.ref (a + 619), .int (-1)]) (k_X10_ownRing_many l D T o (d - 1) G (ax_u (ax_wrI (ax_wrI I a g (a + 615) gn) a h (a + 617) gn) (a + 619) 1 (nI ((gn h) * (gn g)))) (ax_edn (a + 620) ((gn h) * (gn g)) ((gn h) * (gn g)) (ax_tp1 (a + 620) (a + 616) (a + 618) (gn h) (gn g) (ax_wrL (ax_wrI I a g (a + 615) gn) (ax_wrL I L a g (a + 616) gn gc) a h (a + 618) gn gc))) (a + 619) (a + 620) ((gn h) * (gn g)) hC.pairRings (by repeat (first | exact ax_u_at _ _ _ _ | rw [ax_u_ne (by omega)] | rw [ax_u_nj (by decide)] | rw [ax_sc_ne (by omega)] | unfold ax_ldI | unfold ax_woI | unfold ax_rxI | unfold ax_frI0 | unfold ax_frI1 | unfold ax_frI2 | rw [hI_ _ (by omega)] | rw [hN_ (by omega)])) (by omega) (by omega)) mlX10_179 ⟨by show d - 1 + 1 ≤ d; omega, by show 40 * (d - 1 + 1) ≤ 40 * d; omega⟩ ⟨Nat.le_refl _, Nat.le_refl _⟩ rfl (Nat.le_of_ble_eq_true rfl) (dk ddX10_ofTwo 37 rfl) ?_
  rintro v_ G_ I_ L_ ⟨rfl, rfl, rfl, rfl⟩
  exact x_iret C rfl ⟨rfl, rfl, rfl, rfl⟩ rfl rfl (dk ddX10_ofTwo 38 rfl)
def ax_otI1 (I : ax_I) (a : Nat) (g : Nat) (h : Nat) (gn : Nat → Nat) : ax_I := ax_u (ax_wrI (ax_wrI I a g (a + 615) gn) a h (a + 617) gn) (a + 619) 1 (nI ((gn h) * (gn g)))
def ax_otL1 (I : ax_I) (L : ax_L) (a : Nat) (g : Nat) (h : Nat) (gn : Nat → Nat) (gc : Nat → Nat) : ax_L := ax_edn (a + 620) ((gn h) * (gn g)) ((gn h) * (gn g)) (ax_tp1 (a + 620) (a + 616) (a + 618) (gn h) (gn g) (ax_wrL (ax_wrI I a g (a + 615) gn) (ax_wrL I L a g (a + 616) gn gc) a h (a + 618) gn gc))
def ax_otv1 (I : ax_I) (L : ax_L) (a : Nat) (g : Nat) (h : Nat) (k : Nat) (gn : Nat → Nat) (gc : Nat → Nat) : Int32 := if ax_cn ((ax_edn (a + 620) ((gn h) * (gn g)) ((gn h) * (gn g)) (ax_tp1 (a + 620) (a + 616) (a + 618) (gn h) (gn g) (ax_wrL (ax_wrI I a g (a + 615) gn) (ax_wrL I L a g (a + 616) gn gc) a h (a + 618) gn gc))) (a + 620)) ((gn h) * (gn g)) ≤ k then (-3) else (ax_owc ((ax_edn (a + 620) ((gn h) * (gn g)) ((gn h) * (gn g)) (ax_tp1 (a + 620) (a + 616) (a + 618) (gn h) (gn g) (ax_wrL (ax_wrI I a g (a + 615) gn) (ax_wrL I L a g (a + 616) gn gc) a h (a + 618) gn gc))) (a + 620)) ((gn h) * (gn g)) k).toInt32
set_option maxRecDepth 20000 in
/-- ofTwo(1, g, h, ..) -/
theorem k_X10_ofTwo_1 (l : Launch) (D : va_G) (T : Nat → ClassId) (o d : Nat) (G : ax_G) (I : ax_I) (L : ax_L) (a g h k : Nat) (gn gc : Nat → Nat) (hC : ax_Cls G a) (hgn : ∀ g, g < 6 → I (a + 1 + 1) g = nI (gn g) ∧ gn g ≤ 3) (hgc : ∀ g, g < 6 → I (a + 1 + 2) g = nI (gc g) ∧ gc g ≤ 4) (hg : g < 6) (hh : h < 6) (hk : k < 2 ^ 31) (hd : 6 ≤ d) : ax_Con l D T o yX10_ofTwo cX10_ofTwo 5 (some .int) d 0 0 [.ref a, .int (nI 1), .int (nI g), .int (nI h), .int (nI k)] G I L (fun zz G' I' L' => zz = some (.int (ax_otv1 I L a g h k gn gc)) ∧ G = G' ∧ (ax_otI1 I a g h gn) = I' ∧ (ax_otL1 I L a g h gn gc) = L') := by
  refine ax_enter (by decide +kernel) (Nat.le_of_ble_eq_true rfl) ?_
  intro p_ e_ s_ m_ args_ below_ meth_ c_ C _
  refine x_lvs (lv' := [(0, .ref a), (1, .int (nI 1)), (2, .int (nI g)), (3, .int (nI h)), (4, .int (nI k))]) rfl ?_
  have hb_ := (hgn g hg).2
  have hb2_ := (hgn h hh).2
  have hm_ : gn h * gn g ≤ 3 * 3 := Nat.mul_le_mul hb2_ hb_
  refine x_iload_n C (dk ddX10_ofTwo 0 rfl) rfl ?_
  refine x_if_lt_n C (tgt := 29) (dk ddX10_ofTwo 1 rfl) (by decide) (by decide) (fun h_ => absurd h_ (by decide)) (fun _ => ?_)
  refine x_iload_n C (dk ddX10_ofTwo 2 rfl) rfl ?_
  refine x_iconst C (v := nI 4) (dk ddX10_ofTwo 3 rfl) (by decide) ?_
  refine x_icmp_gt_n C (tgt := 29) (dk ddX10_ofTwo 4 rfl) (by decide) (by decide) (by decide) (fun h_ => absurd h_ (by decide)) (fun _ => ?_)
  refine x_iload_n C (dk ddX10_ofTwo 5 rfl) rfl ?_
  refine x_callS C (As := [.int (nI g)]) (k_X10_isGroup l D T o (d - 1) G I L (nI g)) mlX10_98 ⟨by show d - 1 + 1 ≤ d; omega, by show 40 * (d - 1 + 1) ≤ 40 * d; omega⟩ ⟨Nat.le_refl _, Nat.le_refl _⟩ rfl (Nat.le_of_ble_eq_true rfl) (dk ddX10_ofTwo 6 rfl) ?_
  rintro v_ G_ I_ L_ ⟨rfl, rfl, rfl, rfl⟩
  rw [show (ax_rng (nI g) 6) = true from ax_rng_ok (h := 6) (by omega) (by decide)]
  refine x_if_eq_b C (tgt := 29) (dk ddX10_ofTwo 7 rfl) (by decide) (fun h_ => absurd h_ (by decide)) (fun _ => ?_)
  refine x_iload_n C (dk ddX10_ofTwo 8 rfl) rfl ?_
  refine x_callS C (As := [.int (nI h)]) (k_X10_isGroup l D T o (d - 1) G I L (nI h)) mlX10_98 ⟨by show d - 1 + 1 ≤ d; omega, by show 40 * (d - 1 + 1) ≤ 40 * d; omega⟩ ⟨Nat.le_refl _, Nat.le_refl _⟩ rfl (Nat.le_of_ble_eq_true rfl) (dk ddX10_ofTwo 9 rfl) ?_
  rintro v_ G_ I_ L_ ⟨rfl, rfl, rfl, rfl⟩
  rw [show (ax_rng (nI h) 6) = true from ax_rng_ok (h := 6) (by omega) (by decide)]
  refine x_if_eq_b C (tgt := 29) (dk ddX10_ofTwo 10 rfl) (by decide) (fun h_ => absurd h_ (by decide)) (fun _ => ?_)
  refine x_iload C (dk ddX10_ofTwo 11 rfl) rfl ?_
  refine x_iconst C (v := (-1)) (dk ddX10_ofTwo 12 rfl) (by decide) ?_
  refine x_icmp_ge C (tgt := 31) (dk ddX10_ofTwo 13 rfl) (by decide) (fun h26 => ?_) (fun h26 => ?_)
  · have h26c := Int32.not_lt.mpr h26
    refine x_aload_n C (dk ddX10_ofTwo 16 rfl) rfl ?_
    refine x_iload_n C (dk ddX10_ofTwo 17 rfl) rfl ?_
    refine x_aload_n C (dk ddX10_ofTwo 18 rfl) rfl ?_
    refine x_getr C flX10_79 rfl (by have h_ := hC.1; omega) hC.fld.1 (show ax_R G a 12 = some (a + 615) from hC.fld.2.2 (12, 615) (by decide)) (dk ddX10_ofTwo 19 rfl) ?_
    refine x_callV C (ci := 10) (As := [.int (nI g), .ref (a + 615)]) (k_X10_workOutRings l D T o (d - 1) G I L a g (a + 615) (a + 616) gn gc hC (fun g hg => ⟨(by repeat (first | exact ax_u_at _ _ _ _ | exact (hgn g hg).1 | rw [ax_u_ne (by omega)] | rw [ax_u_nj (by decide)] | rw [ax_sc_ne (by omega)] | unfold ax_wrI | unfold ax_ldI | unfold ax_woI | unfold ax_rxI | unfold ax_frI0 | unfold ax_frI1 | unfold ax_frI2 | rw [hI_ _ (by omega)] | rw [hN_ (by omega)])), (hgn g hg).2⟩) (fun g hg => ⟨(by repeat (first | exact ax_u_at _ _ _ _ | exact (hgc g hg).1 | rw [ax_u_ne (by omega)] | rw [ax_u_nj (by decide)] | rw [ax_sc_ne (by omega)] | unfold ax_wrI | unfold ax_ldI | unfold ax_woI | unfold ax_rxI | unfold ax_frI0 | unfold ax_frI1 | unfold ax_frI2 | rw [hI_ _ (by omega)] | rw [hN_ (by omega)])), (hgc g hg).2⟩) (by omega) hC.rings (by omega) (by omega)) mlX10_129 rfl rfl (by have h_ := hC.1; omega) hC.fld.1 ⟨by show d - 1 + 1 ≤ d; omega, by show 40 * (d - 1 + 1) ≤ 40 * d; omega⟩ ⟨Nat.le_refl _, Nat.le_refl _⟩ rfl (Nat.le_of_ble_eq_true rfl) (dk ddX10_ofTwo 20 rfl) ?_
    rintro v_ G_ I_ L_ ⟨rfl, rfl, rfl, rfl⟩
    refine x_aload_n C (dk ddX10_ofTwo 21 rfl) rfl ?_
    refine x_iload_n C (dk ddX10_ofTwo 22 rfl) rfl ?_
    refine x_aload_n C (dk ddX10_ofTwo 23 rfl) rfl ?_
    refine x_getr C flX10_83 rfl (by have h_ := hC.1; omega) hC.fld.1 (show ax_R G a 13 = some (a + 617) from hC.fld.2.2 (13, 617) (by decide)) (dk ddX10_ofTwo 24 rfl) ?_
    refine x_callV C (ci := 10) (As := [.int (nI h), .ref (a + 617)]) (k_X10_workOutRings l D T o (d - 1) G (ax_wrI I a g (a + 615) gn) (ax_wrL I L a g (a + 616) gn gc) a h (a + 617) (a + 618) gn gc hC (fun g hg => ⟨(by repeat (first | exact ax_u_at _ _ _ _ | exact (hgn g hg).1 | rw [ax_u_ne (by omega)] | rw [ax_u_nj (by decide)] | rw [ax_sc_ne (by omega)] | unfold ax_wrI | unfold ax_ldI | unfold ax_woI | unfold ax_rxI | unfold ax_frI0 | unfold ax_frI1 | unfold ax_frI2 | rw [hI_ _ (by omega)] | rw [hN_ (by omega)])), (hgn g hg).2⟩) (fun g hg => ⟨(by repeat (first | exact ax_u_at _ _ _ _ | exact (hgc g hg).1 | rw [ax_u_ne (by omega)] | rw [ax_u_nj (by decide)] | rw [ax_sc_ne (by omega)] | unfold ax_wrI | unfold ax_ldI | unfold ax_woI | unfold ax_rxI | unfold ax_frI0 | unfold ax_frI1 | unfold ax_frI2 | rw [hI_ _ (by omega)] | rw [hN_ (by omega)])), (hgc g hg).2⟩) (by omega) hC.otherRings (by omega) (by omega)) mlX10_129 rfl rfl (by have h_ := hC.1; omega) hC.fld.1 ⟨by show d - 1 + 1 ≤ d; omega, by show 40 * (d - 1 + 1) ≤ 40 * d; omega⟩ ⟨Nat.le_refl _, Nat.le_refl _⟩ rfl (Nat.le_of_ble_eq_true rfl) (dk ddX10_ofTwo 25 rfl) ?_
    rintro v_ G_ I_ L_ ⟨rfl, rfl, rfl, rfl⟩
    refine x_aload_n C (dk ddX10_ofTwo 26 rfl) rfl ?_
    refine x_getr C flX10_86 rfl (by have h_ := hC.1; omega) hC.fld.1 (show ax_R G a 14 = some (a + 619) from hC.fld.2.2 (14, 619) (by decide)) (dk ddX10_ofTwo 27 rfl) ?_
    refine x_iload_n C (dk ddX10_ofTwo 28 rfl) rfl ?_
    refine x_aload_n C (dk ddX10_ofTwo 29 rfl) rfl ?_
    refine x_getr C flX10_79 rfl (by have h_ := hC.1; omega) hC.fld.1 (show ax_R G a 12 = some (a + 615) from hC.fld.2.2 (12, 615) (by decide)) (dk ddX10_ofTwo 30 rfl) ?_
    refine x_aload_n C (dk ddX10_ofTwo 31 rfl) rfl ?_
    refine x_getr C flX10_83 rfl (by have h_ := hC.1; omega) hC.fld.1 (show ax_R G a 13 = some (a + 617) from hC.fld.2.2 (13, 617) (by decide)) (dk ddX10_ofTwo 32 rfl) ?_
    refine x_callV C (ci := 4) (As := [.int (nI 1), .ref (a + 615), .ref (a + 617)]) (k_X4_ofTwoGroups_1 l D T o (d - 1) G (ax_wrI (ax_wrI I a g (a + 615) gn) a h (a + 617) gn) (ax_wrL (ax_wrI I a g (a + 615) gn) (ax_wrL I L a g (a + 616) gn gc) a h (a + 618) gn gc) (a + 619) (a + 620) (a + 615) (a + 616) (gn g) (a + 617) (a + 618) (gn h) hC.pairRings hC.rings (by repeat (first | exact ax_u_at _ _ _ _ | rw [ax_u_ne (by omega)] | rw [ax_u_nj (by decide)] | rw [ax_sc_ne (by omega)] | unfold ax_wrI | unfold ax_ldI | unfold ax_woI | unfold ax_rxI | unfold ax_frI0 | unfold ax_frI1 | unfold ax_frI2 | rw [hI_ _ (by omega)] | rw [hN_ (by omega)])) hC.otherRings (by repeat (first | exact ax_u_at _ _ _ _ | rw [ax_u_ne (by omega)] | rw [ax_u_nj (by decide)] | rw [ax_sc_ne (by omega)] | unfold ax_wrI | unfold ax_ldI | unfold ax_woI | unfold ax_rxI | unfold ax_frI0 | unfold ax_frI1 | unfold ax_frI2 | rw [hI_ _ (by omega)] | rw [hN_ (by omega)])) (by omega) (by omega) (hgn g (by omega)).2 (hgn h (by omega)).2 (by omega)) mlX10_175 rfl rfl hC.pairRings.1 hC.pairRings.2.1 ⟨by show d - 1 + 1 ≤ d; omega, by show 40 * (d - 1 + 1) ≤ 40 * d; omega⟩ ⟨Nat.le_refl _, Nat.le_refl _⟩ rfl (Nat.le_of_ble_eq_true rfl) (dk ddX10_ofTwo 33 rfl) ?_
    rintro v_ G_ I_ L_ ⟨rfl, rfl, rfl, rfl⟩
    refine x_aload_n C (dk ddX10_ofTwo 34 rfl) rfl ?_
    refine x_getr C flX10_86 rfl (by have h_ := hC.1; omega) hC.fld.1 (show ax_R G a 14 = some (a + 619) from hC.fld.2.2 (14, 619) (by decide)) (dk ddX10_ofTwo 35 rfl) ?_
    refine x_iload C (dk ddX10_ofTwo 36 rfl) rfl ?_
    refine x_callS C (As := [.ref (a + 619), .int (nI k)]) (k_X10_ownRing l D T o (d - 1) G (ax_u (ax_wrI (ax_wrI I a g (a + 615) gn) a h (a + 617) gn) (a + 619) 1 (nI ((gn h) * (gn g)))) (ax_edn (a + 620) ((gn h) * (gn g)) ((gn h) * (gn g)) (ax_tp1 (a + 620) (a + 616) (a + 618) (gn h) (gn g) (ax_wrL (ax_wrI I a g (a + 615) gn) (ax_wrL I L a g (a + 616) gn gc) a h (a + 618) gn gc))) (a + 619) (a + 620) ((gn h) * (gn g)) k hC.pairRings (by repeat (first | exact ax_u_at _ _ _ _ | rw [ax_u_ne (by omega)] | rw [ax_u_nj (by decide)] | rw [ax_sc_ne (by omega)] | unfold ax_ldI | unfold ax_woI | unfold ax_rxI | unfold ax_frI0 | unfold ax_frI1 | unfold ax_frI2 | rw [hI_ _ (by omega)] | rw [hN_ (by omega)])) (by omega) (by omega) (by omega)) mlX10_179 ⟨by show d - 1 + 1 ≤ d; omega, by show 40 * (d - 1 + 1) ≤ 40 * d; omega⟩ ⟨Nat.le_refl _, Nat.le_refl _⟩ rfl (Nat.le_of_ble_eq_true rfl) (dk ddX10_ofTwo 37 rfl) ?_
    rintro v_ G_ I_ L_ ⟨rfl, rfl, rfl, rfl⟩
    exact x_iret C rfl ⟨rfl, rfl, rfl, rfl⟩ rfl rfl (dk ddX10_ofTwo 38 rfl)
  · have h26c := Int32.not_le.mp h26
    exfalso
    exact absurd (Int32.not_le.mp h26) (ax_nn1 (by omega))
def ax_otI2_many (I : ax_I) (a : Nat) (g : Nat) (h : Nat) (gn : Nat → Nat) : ax_I := ax_u (ax_wrI (ax_wrI I a g (a + 615) gn) a h (a + 617) gn) (a + 619) 1 (nI ((gn h) * (gn g)))
def ax_otL2_many (I : ax_I) (L : ax_L) (a : Nat) (g : Nat) (h : Nat) (gn : Nat → Nat) (gc : Nat → Nat) : ax_L := ax_edn (a + 620) ((gn h) * (gn g)) ((gn h) * (gn g)) (ax_tp2 (a + 620) (a + 616) (a + 618) (gn h) (gn g) (ax_wrL (ax_wrI I a g (a + 615) gn) (ax_wrL I L a g (a + 616) gn gc) a h (a + 618) gn gc))
def ax_otv2_many (I : ax_I) (L : ax_L) (a : Nat) (g : Nat) (h : Nat) (gn : Nat → Nat) (gc : Nat → Nat) : Int32 := nI (ax_cn ((ax_edn (a + 620) ((gn h) * (gn g)) ((gn h) * (gn g)) (ax_tp2 (a + 620) (a + 616) (a + 618) (gn h) (gn g) (ax_wrL (ax_wrI I a g (a + 615) gn) (ax_wrL I L a g (a + 616) gn gc) a h (a + 618) gn gc))) (a + 620)) ((gn h) * (gn g)))
set_option maxRecDepth 20000 in
/-- ofTwo(2, g, h, ..) -/
theorem k_X10_ofTwo_2_many (l : Launch) (D : va_G) (T : Nat → ClassId) (o d : Nat) (G : ax_G) (I : ax_I) (L : ax_L) (a g h : Nat) (gn gc : Nat → Nat) (hC : ax_Cls G a) (hgn : ∀ g, g < 6 → I (a + 1 + 1) g = nI (gn g) ∧ gn g ≤ 3) (hgc : ∀ g, g < 6 → I (a + 1 + 2) g = nI (gc g) ∧ gc g ≤ 4) (hg : g < 6) (hh : h < 6) (hd : 6 ≤ d) : ax_Con l D T o yX10_ofTwo cX10_ofTwo 5 (some .int) d 0 0 [.ref a, .int (nI 2), .int (nI g), .int (nI h), .int (-1)] G I L (fun zz G' I' L' => zz = some (.int (ax_otv2_many I L a g h gn gc)) ∧ G = G' ∧ (ax_otI2_many I a g h gn) = I' ∧ (ax_otL2_many I L a g h gn gc) = L') := by
  refine ax_enter (by decide +kernel) (Nat.le_of_ble_eq_true rfl) ?_
  intro p_ e_ s_ m_ args_ below_ meth_ c_ C _
  refine x_lvs (lv' := [(0, .ref a), (1, .int (nI 2)), (2, .int (nI g)), (3, .int (nI h)), (4, .int (-1))]) rfl ?_
  have hb_ := (hgn g hg).2
  have hb2_ := (hgn h hh).2
  have hm_ : gn h * gn g ≤ 3 * 3 := Nat.mul_le_mul hb2_ hb_
  refine x_iload_n C (dk ddX10_ofTwo 0 rfl) rfl ?_
  refine x_if_lt_n C (tgt := 29) (dk ddX10_ofTwo 1 rfl) (by decide) (by decide) (fun h_ => absurd h_ (by decide)) (fun _ => ?_)
  refine x_iload_n C (dk ddX10_ofTwo 2 rfl) rfl ?_
  refine x_iconst C (v := nI 4) (dk ddX10_ofTwo 3 rfl) (by decide) ?_
  refine x_icmp_gt_n C (tgt := 29) (dk ddX10_ofTwo 4 rfl) (by decide) (by decide) (by decide) (fun h_ => absurd h_ (by decide)) (fun _ => ?_)
  refine x_iload_n C (dk ddX10_ofTwo 5 rfl) rfl ?_
  refine x_callS C (As := [.int (nI g)]) (k_X10_isGroup l D T o (d - 1) G I L (nI g)) mlX10_98 ⟨by show d - 1 + 1 ≤ d; omega, by show 40 * (d - 1 + 1) ≤ 40 * d; omega⟩ ⟨Nat.le_refl _, Nat.le_refl _⟩ rfl (Nat.le_of_ble_eq_true rfl) (dk ddX10_ofTwo 6 rfl) ?_
  rintro v_ G_ I_ L_ ⟨rfl, rfl, rfl, rfl⟩
  rw [show (ax_rng (nI g) 6) = true from ax_rng_ok (h := 6) (by omega) (by decide)]
  refine x_if_eq_b C (tgt := 29) (dk ddX10_ofTwo 7 rfl) (by decide) (fun h_ => absurd h_ (by decide)) (fun _ => ?_)
  refine x_iload_n C (dk ddX10_ofTwo 8 rfl) rfl ?_
  refine x_callS C (As := [.int (nI h)]) (k_X10_isGroup l D T o (d - 1) G I L (nI h)) mlX10_98 ⟨by show d - 1 + 1 ≤ d; omega, by show 40 * (d - 1 + 1) ≤ 40 * d; omega⟩ ⟨Nat.le_refl _, Nat.le_refl _⟩ rfl (Nat.le_of_ble_eq_true rfl) (dk ddX10_ofTwo 9 rfl) ?_
  rintro v_ G_ I_ L_ ⟨rfl, rfl, rfl, rfl⟩
  rw [show (ax_rng (nI h) 6) = true from ax_rng_ok (h := 6) (by omega) (by decide)]
  refine x_if_eq_b C (tgt := 29) (dk ddX10_ofTwo 10 rfl) (by decide) (fun h_ => absurd h_ (by decide)) (fun _ => ?_)
  refine x_iload C (dk ddX10_ofTwo 11 rfl) rfl ?_
  refine x_iconst C (v := (-1)) (dk ddX10_ofTwo 12 rfl) (by decide) ?_
  refine x_icmp_ge C (tgt := 31) (dk ddX10_ofTwo 13 rfl) (by decide) (fun _ => ?_) (fun h_ => absurd h_ (by decide))
  refine x_aload_n C (dk ddX10_ofTwo 16 rfl) rfl ?_
  refine x_iload_n C (dk ddX10_ofTwo 17 rfl) rfl ?_
  refine x_aload_n C (dk ddX10_ofTwo 18 rfl) rfl ?_
  refine x_getr C flX10_79 rfl (by have h_ := hC.1; omega) hC.fld.1 (show ax_R G a 12 = some (a + 615) from hC.fld.2.2 (12, 615) (by decide)) (dk ddX10_ofTwo 19 rfl) ?_
  refine x_callV C (ci := 10) (As := [.int (nI g), .ref (a + 615)]) (k_X10_workOutRings l D T o (d - 1) G I L a g (a + 615) (a + 616) gn gc hC (fun g hg => ⟨(by repeat (first | exact ax_u_at _ _ _ _ | exact (hgn g hg).1 | rw [ax_u_ne (by omega)] | rw [ax_u_nj (by decide)] | rw [ax_sc_ne (by omega)] | unfold ax_wrI | unfold ax_ldI | unfold ax_woI | unfold ax_rxI | unfold ax_frI0 | unfold ax_frI1 | unfold ax_frI2 | rw [hI_ _ (by omega)] | rw [hN_ (by omega)])), (hgn g hg).2⟩) (fun g hg => ⟨(by repeat (first | exact ax_u_at _ _ _ _ | exact (hgc g hg).1 | rw [ax_u_ne (by omega)] | rw [ax_u_nj (by decide)] | rw [ax_sc_ne (by omega)] | unfold ax_wrI | unfold ax_ldI | unfold ax_woI | unfold ax_rxI | unfold ax_frI0 | unfold ax_frI1 | unfold ax_frI2 | rw [hI_ _ (by omega)] | rw [hN_ (by omega)])), (hgc g hg).2⟩) (by omega) hC.rings (by omega) (by omega)) mlX10_129 rfl rfl (by have h_ := hC.1; omega) hC.fld.1 ⟨by show d - 1 + 1 ≤ d; omega, by show 40 * (d - 1 + 1) ≤ 40 * d; omega⟩ ⟨Nat.le_refl _, Nat.le_refl _⟩ rfl (Nat.le_of_ble_eq_true rfl) (dk ddX10_ofTwo 20 rfl) ?_
  rintro v_ G_ I_ L_ ⟨rfl, rfl, rfl, rfl⟩
  refine x_aload_n C (dk ddX10_ofTwo 21 rfl) rfl ?_
  refine x_iload_n C (dk ddX10_ofTwo 22 rfl) rfl ?_
  refine x_aload_n C (dk ddX10_ofTwo 23 rfl) rfl ?_
  refine x_getr C flX10_83 rfl (by have h_ := hC.1; omega) hC.fld.1 (show ax_R G a 13 = some (a + 617) from hC.fld.2.2 (13, 617) (by decide)) (dk ddX10_ofTwo 24 rfl) ?_
  refine x_callV C (ci := 10) (As := [.int (nI h), .ref (a + 617)]) (k_X10_workOutRings l D T o (d - 1) G (ax_wrI I a g (a + 615) gn) (ax_wrL I L a g (a + 616) gn gc) a h (a + 617) (a + 618) gn gc hC (fun g hg => ⟨(by repeat (first | exact ax_u_at _ _ _ _ | exact (hgn g hg).1 | rw [ax_u_ne (by omega)] | rw [ax_u_nj (by decide)] | rw [ax_sc_ne (by omega)] | unfold ax_wrI | unfold ax_ldI | unfold ax_woI | unfold ax_rxI | unfold ax_frI0 | unfold ax_frI1 | unfold ax_frI2 | rw [hI_ _ (by omega)] | rw [hN_ (by omega)])), (hgn g hg).2⟩) (fun g hg => ⟨(by repeat (first | exact ax_u_at _ _ _ _ | exact (hgc g hg).1 | rw [ax_u_ne (by omega)] | rw [ax_u_nj (by decide)] | rw [ax_sc_ne (by omega)] | unfold ax_wrI | unfold ax_ldI | unfold ax_woI | unfold ax_rxI | unfold ax_frI0 | unfold ax_frI1 | unfold ax_frI2 | rw [hI_ _ (by omega)] | rw [hN_ (by omega)])), (hgc g hg).2⟩) (by omega) hC.otherRings (by omega) (by omega)) mlX10_129 rfl rfl (by have h_ := hC.1; omega) hC.fld.1 ⟨by show d - 1 + 1 ≤ d; omega, by show 40 * (d - 1 + 1) ≤ 40 * d; omega⟩ ⟨Nat.le_refl _, Nat.le_refl _⟩ rfl (Nat.le_of_ble_eq_true rfl) (dk ddX10_ofTwo 25 rfl) ?_
  rintro v_ G_ I_ L_ ⟨rfl, rfl, rfl, rfl⟩
  refine x_aload_n C (dk ddX10_ofTwo 26 rfl) rfl ?_
  refine x_getr C flX10_86 rfl (by have h_ := hC.1; omega) hC.fld.1 (show ax_R G a 14 = some (a + 619) from hC.fld.2.2 (14, 619) (by decide)) (dk ddX10_ofTwo 27 rfl) ?_
  refine x_iload_n C (dk ddX10_ofTwo 28 rfl) rfl ?_
  refine x_aload_n C (dk ddX10_ofTwo 29 rfl) rfl ?_
  refine x_getr C flX10_79 rfl (by have h_ := hC.1; omega) hC.fld.1 (show ax_R G a 12 = some (a + 615) from hC.fld.2.2 (12, 615) (by decide)) (dk ddX10_ofTwo 30 rfl) ?_
  refine x_aload_n C (dk ddX10_ofTwo 31 rfl) rfl ?_
  refine x_getr C flX10_83 rfl (by have h_ := hC.1; omega) hC.fld.1 (show ax_R G a 13 = some (a + 617) from hC.fld.2.2 (13, 617) (by decide)) (dk ddX10_ofTwo 32 rfl) ?_
  refine x_callV C (ci := 4) (As := [.int (nI 2), .ref (a + 615), .ref (a + 617)]) (k_X4_ofTwoGroups_2 l D T o (d - 1) G (ax_wrI (ax_wrI I a g (a + 615) gn) a h (a + 617) gn) (ax_wrL (ax_wrI I a g (a + 615) gn) (ax_wrL I L a g (a + 616) gn gc) a h (a + 618) gn gc) (a + 619) (a + 620) (a + 615) (a + 616) (gn g) (a + 617) (a + 618) (gn h) hC.pairRings hC.rings (by repeat (first | exact ax_u_at _ _ _ _ | rw [ax_u_ne (by omega)] | rw [ax_u_nj (by decide)] | rw [ax_sc_ne (by omega)] | unfold ax_wrI | unfold ax_ldI | unfold ax_woI | unfold ax_rxI | unfold ax_frI0 | unfold ax_frI1 | unfold ax_frI2 | rw [hI_ _ (by omega)] | rw [hN_ (by omega)])) hC.otherRings (by repeat (first | exact ax_u_at _ _ _ _ | rw [ax_u_ne (by omega)] | rw [ax_u_nj (by decide)] | rw [ax_sc_ne (by omega)] | unfold ax_wrI | unfold ax_ldI | unfold ax_woI | unfold ax_rxI | unfold ax_frI0 | unfold ax_frI1 | unfold ax_frI2 | rw [hI_ _ (by omega)] | rw [hN_ (by omega)])) (by omega) (by omega) (hgn g (by omega)).2 (hgn h (by omega)).2 (by omega)) mlX10_175 rfl rfl hC.pairRings.1 hC.pairRings.2.1 ⟨by show d - 1 + 1 ≤ d; omega, by show 40 * (d - 1 + 1) ≤ 40 * d; omega⟩ ⟨Nat.le_refl _, Nat.le_refl _⟩ rfl (Nat.le_of_ble_eq_true rfl) (dk ddX10_ofTwo 33 rfl) ?_
  rintro v_ G_ I_ L_ ⟨rfl, rfl, rfl, rfl⟩
  refine x_aload_n C (dk ddX10_ofTwo 34 rfl) rfl ?_
  refine x_getr C flX10_86 rfl (by have h_ := hC.1; omega) hC.fld.1 (show ax_R G a 14 = some (a + 619) from hC.fld.2.2 (14, 619) (by decide)) (dk ddX10_ofTwo 35 rfl) ?_
  refine x_iload C (dk ddX10_ofTwo 36 rfl) rfl ?_
  refine x_callS C (As := [.ref (a + 619), .int (-1)]) (k_X10_ownRing_many l D T o (d - 1) G (ax_u (ax_wrI (ax_wrI I a g (a + 615) gn) a h (a + 617) gn) (a + 619) 1 (nI ((gn h) * (gn g)))) (ax_edn (a + 620) ((gn h) * (gn g)) ((gn h) * (gn g)) (ax_tp2 (a + 620) (a + 616) (a + 618) (gn h) (gn g) (ax_wrL (ax_wrI I a g (a + 615) gn) (ax_wrL I L a g (a + 616) gn gc) a h (a + 618) gn gc))) (a + 619) (a + 620) ((gn h) * (gn g)) hC.pairRings (by repeat (first | exact ax_u_at _ _ _ _ | rw [ax_u_ne (by omega)] | rw [ax_u_nj (by decide)] | rw [ax_sc_ne (by omega)] | unfold ax_ldI | unfold ax_woI | unfold ax_rxI | unfold ax_frI0 | unfold ax_frI1 | unfold ax_frI2 | rw [hI_ _ (by omega)] | rw [hN_ (by omega)])) (by omega) (by omega)) mlX10_179 ⟨by show d - 1 + 1 ≤ d; omega, by show 40 * (d - 1 + 1) ≤ 40 * d; omega⟩ ⟨Nat.le_refl _, Nat.le_refl _⟩ rfl (Nat.le_of_ble_eq_true rfl) (dk ddX10_ofTwo 37 rfl) ?_
  rintro v_ G_ I_ L_ ⟨rfl, rfl, rfl, rfl⟩
  exact x_iret C rfl ⟨rfl, rfl, rfl, rfl⟩ rfl rfl (dk ddX10_ofTwo 38 rfl)
def ax_otI2 (I : ax_I) (a : Nat) (g : Nat) (h : Nat) (gn : Nat → Nat) : ax_I := ax_u (ax_wrI (ax_wrI I a g (a + 615) gn) a h (a + 617) gn) (a + 619) 1 (nI ((gn h) * (gn g)))
def ax_otL2 (I : ax_I) (L : ax_L) (a : Nat) (g : Nat) (h : Nat) (gn : Nat → Nat) (gc : Nat → Nat) : ax_L := ax_edn (a + 620) ((gn h) * (gn g)) ((gn h) * (gn g)) (ax_tp2 (a + 620) (a + 616) (a + 618) (gn h) (gn g) (ax_wrL (ax_wrI I a g (a + 615) gn) (ax_wrL I L a g (a + 616) gn gc) a h (a + 618) gn gc))
def ax_otv2 (I : ax_I) (L : ax_L) (a : Nat) (g : Nat) (h : Nat) (k : Nat) (gn : Nat → Nat) (gc : Nat → Nat) : Int32 := if ax_cn ((ax_edn (a + 620) ((gn h) * (gn g)) ((gn h) * (gn g)) (ax_tp2 (a + 620) (a + 616) (a + 618) (gn h) (gn g) (ax_wrL (ax_wrI I a g (a + 615) gn) (ax_wrL I L a g (a + 616) gn gc) a h (a + 618) gn gc))) (a + 620)) ((gn h) * (gn g)) ≤ k then (-3) else (ax_owc ((ax_edn (a + 620) ((gn h) * (gn g)) ((gn h) * (gn g)) (ax_tp2 (a + 620) (a + 616) (a + 618) (gn h) (gn g) (ax_wrL (ax_wrI I a g (a + 615) gn) (ax_wrL I L a g (a + 616) gn gc) a h (a + 618) gn gc))) (a + 620)) ((gn h) * (gn g)) k).toInt32
set_option maxRecDepth 20000 in
/-- ofTwo(2, g, h, ..) -/
theorem k_X10_ofTwo_2 (l : Launch) (D : va_G) (T : Nat → ClassId) (o d : Nat) (G : ax_G) (I : ax_I) (L : ax_L) (a g h k : Nat) (gn gc : Nat → Nat) (hC : ax_Cls G a) (hgn : ∀ g, g < 6 → I (a + 1 + 1) g = nI (gn g) ∧ gn g ≤ 3) (hgc : ∀ g, g < 6 → I (a + 1 + 2) g = nI (gc g) ∧ gc g ≤ 4) (hg : g < 6) (hh : h < 6) (hk : k < 2 ^ 31) (hd : 6 ≤ d) : ax_Con l D T o yX10_ofTwo cX10_ofTwo 5 (some .int) d 0 0 [.ref a, .int (nI 2), .int (nI g), .int (nI h), .int (nI k)] G I L (fun zz G' I' L' => zz = some (.int (ax_otv2 I L a g h k gn gc)) ∧ G = G' ∧ (ax_otI2 I a g h gn) = I' ∧ (ax_otL2 I L a g h gn gc) = L') := by
  refine ax_enter (by decide +kernel) (Nat.le_of_ble_eq_true rfl) ?_
  intro p_ e_ s_ m_ args_ below_ meth_ c_ C _
  refine x_lvs (lv' := [(0, .ref a), (1, .int (nI 2)), (2, .int (nI g)), (3, .int (nI h)), (4, .int (nI k))]) rfl ?_
  have hb_ := (hgn g hg).2
  have hb2_ := (hgn h hh).2
  have hm_ : gn h * gn g ≤ 3 * 3 := Nat.mul_le_mul hb2_ hb_
  refine x_iload_n C (dk ddX10_ofTwo 0 rfl) rfl ?_
  refine x_if_lt_n C (tgt := 29) (dk ddX10_ofTwo 1 rfl) (by decide) (by decide) (fun h_ => absurd h_ (by decide)) (fun _ => ?_)
  refine x_iload_n C (dk ddX10_ofTwo 2 rfl) rfl ?_
  refine x_iconst C (v := nI 4) (dk ddX10_ofTwo 3 rfl) (by decide) ?_
  refine x_icmp_gt_n C (tgt := 29) (dk ddX10_ofTwo 4 rfl) (by decide) (by decide) (by decide) (fun h_ => absurd h_ (by decide)) (fun _ => ?_)
  refine x_iload_n C (dk ddX10_ofTwo 5 rfl) rfl ?_
  refine x_callS C (As := [.int (nI g)]) (k_X10_isGroup l D T o (d - 1) G I L (nI g)) mlX10_98 ⟨by show d - 1 + 1 ≤ d; omega, by show 40 * (d - 1 + 1) ≤ 40 * d; omega⟩ ⟨Nat.le_refl _, Nat.le_refl _⟩ rfl (Nat.le_of_ble_eq_true rfl) (dk ddX10_ofTwo 6 rfl) ?_
  rintro v_ G_ I_ L_ ⟨rfl, rfl, rfl, rfl⟩
  rw [show (ax_rng (nI g) 6) = true from ax_rng_ok (h := 6) (by omega) (by decide)]
  refine x_if_eq_b C (tgt := 29) (dk ddX10_ofTwo 7 rfl) (by decide) (fun h_ => absurd h_ (by decide)) (fun _ => ?_)
  refine x_iload_n C (dk ddX10_ofTwo 8 rfl) rfl ?_
  refine x_callS C (As := [.int (nI h)]) (k_X10_isGroup l D T o (d - 1) G I L (nI h)) mlX10_98 ⟨by show d - 1 + 1 ≤ d; omega, by show 40 * (d - 1 + 1) ≤ 40 * d; omega⟩ ⟨Nat.le_refl _, Nat.le_refl _⟩ rfl (Nat.le_of_ble_eq_true rfl) (dk ddX10_ofTwo 9 rfl) ?_
  rintro v_ G_ I_ L_ ⟨rfl, rfl, rfl, rfl⟩
  rw [show (ax_rng (nI h) 6) = true from ax_rng_ok (h := 6) (by omega) (by decide)]
  refine x_if_eq_b C (tgt := 29) (dk ddX10_ofTwo 10 rfl) (by decide) (fun h_ => absurd h_ (by decide)) (fun _ => ?_)
  refine x_iload C (dk ddX10_ofTwo 11 rfl) rfl ?_
  refine x_iconst C (v := (-1)) (dk ddX10_ofTwo 12 rfl) (by decide) ?_
  refine x_icmp_ge C (tgt := 31) (dk ddX10_ofTwo 13 rfl) (by decide) (fun h26 => ?_) (fun h26 => ?_)
  · have h26c := Int32.not_lt.mpr h26
    refine x_aload_n C (dk ddX10_ofTwo 16 rfl) rfl ?_
    refine x_iload_n C (dk ddX10_ofTwo 17 rfl) rfl ?_
    refine x_aload_n C (dk ddX10_ofTwo 18 rfl) rfl ?_
    refine x_getr C flX10_79 rfl (by have h_ := hC.1; omega) hC.fld.1 (show ax_R G a 12 = some (a + 615) from hC.fld.2.2 (12, 615) (by decide)) (dk ddX10_ofTwo 19 rfl) ?_
    refine x_callV C (ci := 10) (As := [.int (nI g), .ref (a + 615)]) (k_X10_workOutRings l D T o (d - 1) G I L a g (a + 615) (a + 616) gn gc hC (fun g hg => ⟨(by repeat (first | exact ax_u_at _ _ _ _ | exact (hgn g hg).1 | rw [ax_u_ne (by omega)] | rw [ax_u_nj (by decide)] | rw [ax_sc_ne (by omega)] | unfold ax_wrI | unfold ax_ldI | unfold ax_woI | unfold ax_rxI | unfold ax_frI0 | unfold ax_frI1 | unfold ax_frI2 | rw [hI_ _ (by omega)] | rw [hN_ (by omega)])), (hgn g hg).2⟩) (fun g hg => ⟨(by repeat (first | exact ax_u_at _ _ _ _ | exact (hgc g hg).1 | rw [ax_u_ne (by omega)] | rw [ax_u_nj (by decide)] | rw [ax_sc_ne (by omega)] | unfold ax_wrI | unfold ax_ldI | unfold ax_woI | unfold ax_rxI | unfold ax_frI0 | unfold ax_frI1 | unfold ax_frI2 | rw [hI_ _ (by omega)] | rw [hN_ (by omega)])), (hgc g hg).2⟩) (by omega) hC.rings (by omega) (by omega)) mlX10_129 rfl rfl (by have h_ := hC.1; omega) hC.fld.1 ⟨by show d - 1 + 1 ≤ d; omega, by show 40 * (d - 1 + 1) ≤ 40 * d; omega⟩ ⟨Nat.le_refl _, Nat.le_refl _⟩ rfl (Nat.le_of_ble_eq_true rfl) (dk ddX10_ofTwo 20 rfl) ?_
    rintro v_ G_ I_ L_ ⟨rfl, rfl, rfl, rfl⟩
    refine x_aload_n C (dk ddX10_ofTwo 21 rfl) rfl ?_
    refine x_iload_n C (dk ddX10_ofTwo 22 rfl) rfl ?_
    refine x_aload_n C (dk ddX10_ofTwo 23 rfl) rfl ?_
    refine x_getr C flX10_83 rfl (by have h_ := hC.1; omega) hC.fld.1 (show ax_R G a 13 = some (a + 617) from hC.fld.2.2 (13, 617) (by decide)) (dk ddX10_ofTwo 24 rfl) ?_
    refine x_callV C (ci := 10) (As := [.int (nI h), .ref (a + 617)]) (k_X10_workOutRings l D T o (d - 1) G (ax_wrI I a g (a + 615) gn) (ax_wrL I L a g (a + 616) gn gc) a h (a + 617) (a + 618) gn gc hC (fun g hg => ⟨(by repeat (first | exact ax_u_at _ _ _ _ | exact (hgn g hg).1 | rw [ax_u_ne (by omega)] | rw [ax_u_nj (by decide)] | rw [ax_sc_ne (by omega)] | unfold ax_wrI | unfold ax_ldI | unfold ax_woI | unfold ax_rxI | unfold ax_frI0 | unfold ax_frI1 | unfold ax_frI2 | rw [hI_ _ (by omega)] | rw [hN_ (by omega)])), (hgn g hg).2⟩) (fun g hg => ⟨(by repeat (first | exact ax_u_at _ _ _ _ | exact (hgc g hg).1 | rw [ax_u_ne (by omega)] | rw [ax_u_nj (by decide)] | rw [ax_sc_ne (by omega)] | unfold ax_wrI | unfold ax_ldI | unfold ax_woI | unfold ax_rxI | unfold ax_frI0 | unfold ax_frI1 | unfold ax_frI2 | rw [hI_ _ (by omega)] | rw [hN_ (by omega)])), (hgc g hg).2⟩) (by omega) hC.otherRings (by omega) (by omega)) mlX10_129 rfl rfl (by have h_ := hC.1; omega) hC.fld.1 ⟨by show d - 1 + 1 ≤ d; omega, by show 40 * (d - 1 + 1) ≤ 40 * d; omega⟩ ⟨Nat.le_refl _, Nat.le_refl _⟩ rfl (Nat.le_of_ble_eq_true rfl) (dk ddX10_ofTwo 25 rfl) ?_
    rintro v_ G_ I_ L_ ⟨rfl, rfl, rfl, rfl⟩
    refine x_aload_n C (dk ddX10_ofTwo 26 rfl) rfl ?_
    refine x_getr C flX10_86 rfl (by have h_ := hC.1; omega) hC.fld.1 (show ax_R G a 14 = some (a + 619) from hC.fld.2.2 (14, 619) (by decide)) (dk ddX10_ofTwo 27 rfl) ?_
    refine x_iload_n C (dk ddX10_ofTwo 28 rfl) rfl ?_
    refine x_aload_n C (dk ddX10_ofTwo 29 rfl) rfl ?_
    refine x_getr C flX10_79 rfl (by have h_ := hC.1; omega) hC.fld.1 (show ax_R G a 12 = some (a + 615) from hC.fld.2.2 (12, 615) (by decide)) (dk ddX10_ofTwo 30 rfl) ?_
    refine x_aload_n C (dk ddX10_ofTwo 31 rfl) rfl ?_
    refine x_getr C flX10_83 rfl (by have h_ := hC.1; omega) hC.fld.1 (show ax_R G a 13 = some (a + 617) from hC.fld.2.2 (13, 617) (by decide)) (dk ddX10_ofTwo 32 rfl) ?_
    refine x_callV C (ci := 4) (As := [.int (nI 2), .ref (a + 615), .ref (a + 617)]) (k_X4_ofTwoGroups_2 l D T o (d - 1) G (ax_wrI (ax_wrI I a g (a + 615) gn) a h (a + 617) gn) (ax_wrL (ax_wrI I a g (a + 615) gn) (ax_wrL I L a g (a + 616) gn gc) a h (a + 618) gn gc) (a + 619) (a + 620) (a + 615) (a + 616) (gn g) (a + 617) (a + 618) (gn h) hC.pairRings hC.rings (by repeat (first | exact ax_u_at _ _ _ _ | rw [ax_u_ne (by omega)] | rw [ax_u_nj (by decide)] | rw [ax_sc_ne (by omega)] | unfold ax_wrI | unfold ax_ldI | unfold ax_woI | unfold ax_rxI | unfold ax_frI0 | unfold ax_frI1 | unfold ax_frI2 | rw [hI_ _ (by omega)] | rw [hN_ (by omega)])) hC.otherRings (by repeat (first | exact ax_u_at _ _ _ _ | rw [ax_u_ne (by omega)] | rw [ax_u_nj (by decide)] | rw [ax_sc_ne (by omega)] | unfold ax_wrI | unfold ax_ldI | unfold ax_woI | unfold ax_rxI | unfold ax_frI0 | unfold ax_frI1 | unfold ax_frI2 | rw [hI_ _ (by omega)] | rw [hN_ (by omega)])) (by omega) (by omega) (hgn g (by omega)).2 (hgn h (by omega)).2 (by omega)) mlX10_175 rfl rfl hC.pairRings.1 hC.pairRings.2.1 ⟨by show d - 1 + 1 ≤ d; omega, by show 40 * (d - 1 + 1) ≤ 40 * d; omega⟩ ⟨Nat.le_refl _, Nat.le_refl _⟩ rfl (Nat.le_of_ble_eq_true rfl) (dk ddX10_ofTwo 33 rfl) ?_
    rintro v_ G_ I_ L_ ⟨rfl, rfl, rfl, rfl⟩
    refine x_aload_n C (dk ddX10_ofTwo 34 rfl) rfl ?_
    refine x_getr C flX10_86 rfl (by have h_ := hC.1; omega) hC.fld.1 (show ax_R G a 14 = some (a + 619) from hC.fld.2.2 (14, 619) (by decide)) (dk ddX10_ofTwo 35 rfl) ?_
    refine x_iload C (dk ddX10_ofTwo 36 rfl) rfl ?_
    refine x_callS C (As := [.ref (a + 619), .int (nI k)]) (k_X10_ownRing l D T o (d - 1) G (ax_u (ax_wrI (ax_wrI I a g (a + 615) gn) a h (a + 617) gn) (a + 619) 1 (nI ((gn h) * (gn g)))) (ax_edn (a + 620) ((gn h) * (gn g)) ((gn h) * (gn g)) (ax_tp2 (a + 620) (a + 616) (a + 618) (gn h) (gn g) (ax_wrL (ax_wrI I a g (a + 615) gn) (ax_wrL I L a g (a + 616) gn gc) a h (a + 618) gn gc))) (a + 619) (a + 620) ((gn h) * (gn g)) k hC.pairRings (by repeat (first | exact ax_u_at _ _ _ _ | rw [ax_u_ne (by omega)] | rw [ax_u_nj (by decide)] | rw [ax_sc_ne (by omega)] | unfold ax_ldI | unfold ax_woI | unfold ax_rxI | unfold ax_frI0 | unfold ax_frI1 | unfold ax_frI2 | rw [hI_ _ (by omega)] | rw [hN_ (by omega)])) (by omega) (by omega) (by omega)) mlX10_179 ⟨by show d - 1 + 1 ≤ d; omega, by show 40 * (d - 1 + 1) ≤ 40 * d; omega⟩ ⟨Nat.le_refl _, Nat.le_refl _⟩ rfl (Nat.le_of_ble_eq_true rfl) (dk ddX10_ofTwo 37 rfl) ?_
    rintro v_ G_ I_ L_ ⟨rfl, rfl, rfl, rfl⟩
    exact x_iret C rfl ⟨rfl, rfl, rfl, rfl⟩ rfl rfl (dk ddX10_ofTwo 38 rfl)
  · have h26c := Int32.not_le.mp h26
    exfalso
    exact absurd (Int32.not_le.mp h26) (ax_nn1 (by omega))
def ax_otI3_many (I : ax_I) (a : Nat) (g : Nat) (h : Nat) (gn : Nat → Nat) : ax_I := ax_u (ax_wrI (ax_wrI I a g (a + 615) gn) a h (a + 617) gn) (a + 619) 1 (nI ((gn h) * (gn g)))
def ax_otL3_many (I : ax_I) (L : ax_L) (a : Nat) (g : Nat) (h : Nat) (gn : Nat → Nat) (gc : Nat → Nat) : ax_L := ax_edn (a + 620) ((gn h) * (gn g)) ((gn h) * (gn g)) (ax_tp3 (a + 620) (a + 616) (a + 618) (gn h) (gn g) (ax_wrL (ax_wrI I a g (a + 615) gn) (ax_wrL I L a g (a + 616) gn gc) a h (a + 618) gn gc))
def ax_otv3_many (I : ax_I) (L : ax_L) (a : Nat) (g : Nat) (h : Nat) (gn : Nat → Nat) (gc : Nat → Nat) : Int32 := nI (ax_cn ((ax_edn (a + 620) ((gn h) * (gn g)) ((gn h) * (gn g)) (ax_tp3 (a + 620) (a + 616) (a + 618) (gn h) (gn g) (ax_wrL (ax_wrI I a g (a + 615) gn) (ax_wrL I L a g (a + 616) gn gc) a h (a + 618) gn gc))) (a + 620)) ((gn h) * (gn g)))
set_option maxRecDepth 20000 in
/-- ofTwo(3, g, h, ..) -/
theorem k_X10_ofTwo_3_many (l : Launch) (D : va_G) (T : Nat → ClassId) (o d : Nat) (G : ax_G) (I : ax_I) (L : ax_L) (a g h : Nat) (gn gc : Nat → Nat) (hC : ax_Cls G a) (hgn : ∀ g, g < 6 → I (a + 1 + 1) g = nI (gn g) ∧ gn g ≤ 3) (hgc : ∀ g, g < 6 → I (a + 1 + 2) g = nI (gc g) ∧ gc g ≤ 4) (hg : g < 6) (hh : h < 6) (hd : 6 ≤ d) : ax_Con l D T o yX10_ofTwo cX10_ofTwo 5 (some .int) d 0 0 [.ref a, .int (nI 3), .int (nI g), .int (nI h), .int (-1)] G I L (fun zz G' I' L' => zz = some (.int (ax_otv3_many I L a g h gn gc)) ∧ G = G' ∧ (ax_otI3_many I a g h gn) = I' ∧ (ax_otL3_many I L a g h gn gc) = L') := by
  refine ax_enter (by decide +kernel) (Nat.le_of_ble_eq_true rfl) ?_
  intro p_ e_ s_ m_ args_ below_ meth_ c_ C _
  refine x_lvs (lv' := [(0, .ref a), (1, .int (nI 3)), (2, .int (nI g)), (3, .int (nI h)), (4, .int (-1))]) rfl ?_
  have hb_ := (hgn g hg).2
  have hb2_ := (hgn h hh).2
  have hm_ : gn h * gn g ≤ 3 * 3 := Nat.mul_le_mul hb2_ hb_
  refine x_iload_n C (dk ddX10_ofTwo 0 rfl) rfl ?_
  refine x_if_lt_n C (tgt := 29) (dk ddX10_ofTwo 1 rfl) (by decide) (by decide) (fun h_ => absurd h_ (by decide)) (fun _ => ?_)
  refine x_iload_n C (dk ddX10_ofTwo 2 rfl) rfl ?_
  refine x_iconst C (v := nI 4) (dk ddX10_ofTwo 3 rfl) (by decide) ?_
  refine x_icmp_gt_n C (tgt := 29) (dk ddX10_ofTwo 4 rfl) (by decide) (by decide) (by decide) (fun h_ => absurd h_ (by decide)) (fun _ => ?_)
  refine x_iload_n C (dk ddX10_ofTwo 5 rfl) rfl ?_
  refine x_callS C (As := [.int (nI g)]) (k_X10_isGroup l D T o (d - 1) G I L (nI g)) mlX10_98 ⟨by show d - 1 + 1 ≤ d; omega, by show 40 * (d - 1 + 1) ≤ 40 * d; omega⟩ ⟨Nat.le_refl _, Nat.le_refl _⟩ rfl (Nat.le_of_ble_eq_true rfl) (dk ddX10_ofTwo 6 rfl) ?_
  rintro v_ G_ I_ L_ ⟨rfl, rfl, rfl, rfl⟩
  rw [show (ax_rng (nI g) 6) = true from ax_rng_ok (h := 6) (by omega) (by decide)]
  refine x_if_eq_b C (tgt := 29) (dk ddX10_ofTwo 7 rfl) (by decide) (fun h_ => absurd h_ (by decide)) (fun _ => ?_)
  refine x_iload_n C (dk ddX10_ofTwo 8 rfl) rfl ?_
  refine x_callS C (As := [.int (nI h)]) (k_X10_isGroup l D T o (d - 1) G I L (nI h)) mlX10_98 ⟨by show d - 1 + 1 ≤ d; omega, by show 40 * (d - 1 + 1) ≤ 40 * d; omega⟩ ⟨Nat.le_refl _, Nat.le_refl _⟩ rfl (Nat.le_of_ble_eq_true rfl) (dk ddX10_ofTwo 9 rfl) ?_
  rintro v_ G_ I_ L_ ⟨rfl, rfl, rfl, rfl⟩
  rw [show (ax_rng (nI h) 6) = true from ax_rng_ok (h := 6) (by omega) (by decide)]
  refine x_if_eq_b C (tgt := 29) (dk ddX10_ofTwo 10 rfl) (by decide) (fun h_ => absurd h_ (by decide)) (fun _ => ?_)
  refine x_iload C (dk ddX10_ofTwo 11 rfl) rfl ?_
  refine x_iconst C (v := (-1)) (dk ddX10_ofTwo 12 rfl) (by decide) ?_
  refine x_icmp_ge C (tgt := 31) (dk ddX10_ofTwo 13 rfl) (by decide) (fun _ => ?_) (fun h_ => absurd h_ (by decide))
  refine x_aload_n C (dk ddX10_ofTwo 16 rfl) rfl ?_
  refine x_iload_n C (dk ddX10_ofTwo 17 rfl) rfl ?_
  refine x_aload_n C (dk ddX10_ofTwo 18 rfl) rfl ?_
  refine x_getr C flX10_79 rfl (by have h_ := hC.1; omega) hC.fld.1 (show ax_R G a 12 = some (a + 615) from hC.fld.2.2 (12, 615) (by decide)) (dk ddX10_ofTwo 19 rfl) ?_
  refine x_callV C (ci := 10) (As := [.int (nI g), .ref (a + 615)]) (k_X10_workOutRings l D T o (d - 1) G I L a g (a + 615) (a + 616) gn gc hC (fun g hg => ⟨(by repeat (first | exact ax_u_at _ _ _ _ | exact (hgn g hg).1 | rw [ax_u_ne (by omega)] | rw [ax_u_nj (by decide)] | rw [ax_sc_ne (by omega)] | unfold ax_wrI | unfold ax_ldI | unfold ax_woI | unfold ax_rxI | unfold ax_frI0 | unfold ax_frI1 | unfold ax_frI2 | rw [hI_ _ (by omega)] | rw [hN_ (by omega)])), (hgn g hg).2⟩) (fun g hg => ⟨(by repeat (first | exact ax_u_at _ _ _ _ | exact (hgc g hg).1 | rw [ax_u_ne (by omega)] | rw [ax_u_nj (by decide)] | rw [ax_sc_ne (by omega)] | unfold ax_wrI | unfold ax_ldI | unfold ax_woI | unfold ax_rxI | unfold ax_frI0 | unfold ax_frI1 | unfold ax_frI2 | rw [hI_ _ (by omega)] | rw [hN_ (by omega)])), (hgc g hg).2⟩) (by omega) hC.rings (by omega) (by omega)) mlX10_129 rfl rfl (by have h_ := hC.1; omega) hC.fld.1 ⟨by show d - 1 + 1 ≤ d; omega, by show 40 * (d - 1 + 1) ≤ 40 * d; omega⟩ ⟨Nat.le_refl _, Nat.le_refl _⟩ rfl (Nat.le_of_ble_eq_true rfl) (dk ddX10_ofTwo 20 rfl) ?_
  rintro v_ G_ I_ L_ ⟨rfl, rfl, rfl, rfl⟩
  refine x_aload_n C (dk ddX10_ofTwo 21 rfl) rfl ?_
  refine x_iload_n C (dk ddX10_ofTwo 22 rfl) rfl ?_
  refine x_aload_n C (dk ddX10_ofTwo 23 rfl) rfl ?_
  refine x_getr C flX10_83 rfl (by have h_ := hC.1; omega) hC.fld.1 (show ax_R G a 13 = some (a + 617) from hC.fld.2.2 (13, 617) (by decide)) (dk ddX10_ofTwo 24 rfl) ?_
  refine x_callV C (ci := 10) (As := [.int (nI h), .ref (a + 617)]) (k_X10_workOutRings l D T o (d - 1) G (ax_wrI I a g (a + 615) gn) (ax_wrL I L a g (a + 616) gn gc) a h (a + 617) (a + 618) gn gc hC (fun g hg => ⟨(by repeat (first | exact ax_u_at _ _ _ _ | exact (hgn g hg).1 | rw [ax_u_ne (by omega)] | rw [ax_u_nj (by decide)] | rw [ax_sc_ne (by omega)] | unfold ax_wrI | unfold ax_ldI | unfold ax_woI | unfold ax_rxI | unfold ax_frI0 | unfold ax_frI1 | unfold ax_frI2 | rw [hI_ _ (by omega)] | rw [hN_ (by omega)])), (hgn g hg).2⟩) (fun g hg => ⟨(by repeat (first | exact ax_u_at _ _ _ _ | exact (hgc g hg).1 | rw [ax_u_ne (by omega)] | rw [ax_u_nj (by decide)] | rw [ax_sc_ne (by omega)] | unfold ax_wrI | unfold ax_ldI | unfold ax_woI | unfold ax_rxI | unfold ax_frI0 | unfold ax_frI1 | unfold ax_frI2 | rw [hI_ _ (by omega)] | rw [hN_ (by omega)])), (hgc g hg).2⟩) (by omega) hC.otherRings (by omega) (by omega)) mlX10_129 rfl rfl (by have h_ := hC.1; omega) hC.fld.1 ⟨by show d - 1 + 1 ≤ d; omega, by show 40 * (d - 1 + 1) ≤ 40 * d; omega⟩ ⟨Nat.le_refl _, Nat.le_refl _⟩ rfl (Nat.le_of_ble_eq_true rfl) (dk ddX10_ofTwo 25 rfl) ?_
  rintro v_ G_ I_ L_ ⟨rfl, rfl, rfl, rfl⟩
  refine x_aload_n C (dk ddX10_ofTwo 26 rfl) rfl ?_
  refine x_getr C flX10_86 rfl (by have h_ := hC.1; omega) hC.fld.1 (show ax_R G a 14 = some (a + 619) from hC.fld.2.2 (14, 619) (by decide)) (dk ddX10_ofTwo 27 rfl) ?_
  refine x_iload_n C (dk ddX10_ofTwo 28 rfl) rfl ?_
  refine x_aload_n C (dk ddX10_ofTwo 29 rfl) rfl ?_
  refine x_getr C flX10_79 rfl (by have h_ := hC.1; omega) hC.fld.1 (show ax_R G a 12 = some (a + 615) from hC.fld.2.2 (12, 615) (by decide)) (dk ddX10_ofTwo 30 rfl) ?_
  refine x_aload_n C (dk ddX10_ofTwo 31 rfl) rfl ?_
  refine x_getr C flX10_83 rfl (by have h_ := hC.1; omega) hC.fld.1 (show ax_R G a 13 = some (a + 617) from hC.fld.2.2 (13, 617) (by decide)) (dk ddX10_ofTwo 32 rfl) ?_
  refine x_callV C (ci := 4) (As := [.int (nI 3), .ref (a + 615), .ref (a + 617)]) (k_X4_ofTwoGroups_3 l D T o (d - 1) G (ax_wrI (ax_wrI I a g (a + 615) gn) a h (a + 617) gn) (ax_wrL (ax_wrI I a g (a + 615) gn) (ax_wrL I L a g (a + 616) gn gc) a h (a + 618) gn gc) (a + 619) (a + 620) (a + 615) (a + 616) (gn g) (a + 617) (a + 618) (gn h) hC.pairRings hC.rings (by repeat (first | exact ax_u_at _ _ _ _ | rw [ax_u_ne (by omega)] | rw [ax_u_nj (by decide)] | rw [ax_sc_ne (by omega)] | unfold ax_wrI | unfold ax_ldI | unfold ax_woI | unfold ax_rxI | unfold ax_frI0 | unfold ax_frI1 | unfold ax_frI2 | rw [hI_ _ (by omega)] | rw [hN_ (by omega)])) hC.otherRings (by repeat (first | exact ax_u_at _ _ _ _ | rw [ax_u_ne (by omega)] | rw [ax_u_nj (by decide)] | rw [ax_sc_ne (by omega)] | unfold ax_wrI | unfold ax_ldI | unfold ax_woI | unfold ax_rxI | unfold ax_frI0 | unfold ax_frI1 | unfold ax_frI2 | rw [hI_ _ (by omega)] | rw [hN_ (by omega)])) (by omega) (by omega) (hgn g (by omega)).2 (hgn h (by omega)).2 (by omega)) mlX10_175 rfl rfl hC.pairRings.1 hC.pairRings.2.1 ⟨by show d - 1 + 1 ≤ d; omega, by show 40 * (d - 1 + 1) ≤ 40 * d; omega⟩ ⟨Nat.le_refl _, Nat.le_refl _⟩ rfl (Nat.le_of_ble_eq_true rfl) (dk ddX10_ofTwo 33 rfl) ?_
  rintro v_ G_ I_ L_ ⟨rfl, rfl, rfl, rfl⟩
  refine x_aload_n C (dk ddX10_ofTwo 34 rfl) rfl ?_
  refine x_getr C flX10_86 rfl (by have h_ := hC.1; omega) hC.fld.1 (show ax_R G a 14 = some (a + 619) from hC.fld.2.2 (14, 619) (by decide)) (dk ddX10_ofTwo 35 rfl) ?_
  refine x_iload C (dk ddX10_ofTwo 36 rfl) rfl ?_
  refine x_callS C (As := [.ref (a + 619), .int (-1)]) (k_X10_ownRing_many l D T o (d - 1) G (ax_u (ax_wrI (ax_wrI I a g (a + 615) gn) a h (a + 617) gn) (a + 619) 1 (nI ((gn h) * (gn g)))) (ax_edn (a + 620) ((gn h) * (gn g)) ((gn h) * (gn g)) (ax_tp3 (a + 620) (a + 616) (a + 618) (gn h) (gn g) (ax_wrL (ax_wrI I a g (a + 615) gn) (ax_wrL I L a g (a + 616) gn gc) a h (a + 618) gn gc))) (a + 619) (a + 620) ((gn h) * (gn g)) hC.pairRings (by repeat (first | exact ax_u_at _ _ _ _ | rw [ax_u_ne (by omega)] | rw [ax_u_nj (by decide)] | rw [ax_sc_ne (by omega)] | unfold ax_ldI | unfold ax_woI | unfold ax_rxI | unfold ax_frI0 | unfold ax_frI1 | unfold ax_frI2 | rw [hI_ _ (by omega)] | rw [hN_ (by omega)])) (by omega) (by omega)) mlX10_179 ⟨by show d - 1 + 1 ≤ d; omega, by show 40 * (d - 1 + 1) ≤ 40 * d; omega⟩ ⟨Nat.le_refl _, Nat.le_refl _⟩ rfl (Nat.le_of_ble_eq_true rfl) (dk ddX10_ofTwo 37 rfl) ?_
  rintro v_ G_ I_ L_ ⟨rfl, rfl, rfl, rfl⟩
  exact x_iret C rfl ⟨rfl, rfl, rfl, rfl⟩ rfl rfl (dk ddX10_ofTwo 38 rfl)
def ax_otI3 (I : ax_I) (a : Nat) (g : Nat) (h : Nat) (gn : Nat → Nat) : ax_I := ax_u (ax_wrI (ax_wrI I a g (a + 615) gn) a h (a + 617) gn) (a + 619) 1 (nI ((gn h) * (gn g)))
def ax_otL3 (I : ax_I) (L : ax_L) (a : Nat) (g : Nat) (h : Nat) (gn : Nat → Nat) (gc : Nat → Nat) : ax_L := ax_edn (a + 620) ((gn h) * (gn g)) ((gn h) * (gn g)) (ax_tp3 (a + 620) (a + 616) (a + 618) (gn h) (gn g) (ax_wrL (ax_wrI I a g (a + 615) gn) (ax_wrL I L a g (a + 616) gn gc) a h (a + 618) gn gc))
def ax_otv3 (I : ax_I) (L : ax_L) (a : Nat) (g : Nat) (h : Nat) (k : Nat) (gn : Nat → Nat) (gc : Nat → Nat) : Int32 := if ax_cn ((ax_edn (a + 620) ((gn h) * (gn g)) ((gn h) * (gn g)) (ax_tp3 (a + 620) (a + 616) (a + 618) (gn h) (gn g) (ax_wrL (ax_wrI I a g (a + 615) gn) (ax_wrL I L a g (a + 616) gn gc) a h (a + 618) gn gc))) (a + 620)) ((gn h) * (gn g)) ≤ k then (-3) else (ax_owc ((ax_edn (a + 620) ((gn h) * (gn g)) ((gn h) * (gn g)) (ax_tp3 (a + 620) (a + 616) (a + 618) (gn h) (gn g) (ax_wrL (ax_wrI I a g (a + 615) gn) (ax_wrL I L a g (a + 616) gn gc) a h (a + 618) gn gc))) (a + 620)) ((gn h) * (gn g)) k).toInt32
set_option maxRecDepth 20000 in
/-- ofTwo(3, g, h, ..) -/
theorem k_X10_ofTwo_3 (l : Launch) (D : va_G) (T : Nat → ClassId) (o d : Nat) (G : ax_G) (I : ax_I) (L : ax_L) (a g h k : Nat) (gn gc : Nat → Nat) (hC : ax_Cls G a) (hgn : ∀ g, g < 6 → I (a + 1 + 1) g = nI (gn g) ∧ gn g ≤ 3) (hgc : ∀ g, g < 6 → I (a + 1 + 2) g = nI (gc g) ∧ gc g ≤ 4) (hg : g < 6) (hh : h < 6) (hk : k < 2 ^ 31) (hd : 6 ≤ d) : ax_Con l D T o yX10_ofTwo cX10_ofTwo 5 (some .int) d 0 0 [.ref a, .int (nI 3), .int (nI g), .int (nI h), .int (nI k)] G I L (fun zz G' I' L' => zz = some (.int (ax_otv3 I L a g h k gn gc)) ∧ G = G' ∧ (ax_otI3 I a g h gn) = I' ∧ (ax_otL3 I L a g h gn gc) = L') := by
  refine ax_enter (by decide +kernel) (Nat.le_of_ble_eq_true rfl) ?_
  intro p_ e_ s_ m_ args_ below_ meth_ c_ C _
  refine x_lvs (lv' := [(0, .ref a), (1, .int (nI 3)), (2, .int (nI g)), (3, .int (nI h)), (4, .int (nI k))]) rfl ?_
  have hb_ := (hgn g hg).2
  have hb2_ := (hgn h hh).2
  have hm_ : gn h * gn g ≤ 3 * 3 := Nat.mul_le_mul hb2_ hb_
  refine x_iload_n C (dk ddX10_ofTwo 0 rfl) rfl ?_
  refine x_if_lt_n C (tgt := 29) (dk ddX10_ofTwo 1 rfl) (by decide) (by decide) (fun h_ => absurd h_ (by decide)) (fun _ => ?_)
  refine x_iload_n C (dk ddX10_ofTwo 2 rfl) rfl ?_
  refine x_iconst C (v := nI 4) (dk ddX10_ofTwo 3 rfl) (by decide) ?_
  refine x_icmp_gt_n C (tgt := 29) (dk ddX10_ofTwo 4 rfl) (by decide) (by decide) (by decide) (fun h_ => absurd h_ (by decide)) (fun _ => ?_)
  refine x_iload_n C (dk ddX10_ofTwo 5 rfl) rfl ?_
  refine x_callS C (As := [.int (nI g)]) (k_X10_isGroup l D T o (d - 1) G I L (nI g)) mlX10_98 ⟨by show d - 1 + 1 ≤ d; omega, by show 40 * (d - 1 + 1) ≤ 40 * d; omega⟩ ⟨Nat.le_refl _, Nat.le_refl _⟩ rfl (Nat.le_of_ble_eq_true rfl) (dk ddX10_ofTwo 6 rfl) ?_
  rintro v_ G_ I_ L_ ⟨rfl, rfl, rfl, rfl⟩
  rw [show (ax_rng (nI g) 6) = true from ax_rng_ok (h := 6) (by omega) (by decide)]
  refine x_if_eq_b C (tgt := 29) (dk ddX10_ofTwo 7 rfl) (by decide) (fun h_ => absurd h_ (by decide)) (fun _ => ?_)
  refine x_iload_n C (dk ddX10_ofTwo 8 rfl) rfl ?_
  refine x_callS C (As := [.int (nI h)]) (k_X10_isGroup l D T o (d - 1) G I L (nI h)) mlX10_98 ⟨by show d - 1 + 1 ≤ d; omega, by show 40 * (d - 1 + 1) ≤ 40 * d; omega⟩ ⟨Nat.le_refl _, Nat.le_refl _⟩ rfl (Nat.le_of_ble_eq_true rfl) (dk ddX10_ofTwo 9 rfl) ?_
  rintro v_ G_ I_ L_ ⟨rfl, rfl, rfl, rfl⟩
  rw [show (ax_rng (nI h) 6) = true from ax_rng_ok (h := 6) (by omega) (by decide)]
  refine x_if_eq_b C (tgt := 29) (dk ddX10_ofTwo 10 rfl) (by decide) (fun h_ => absurd h_ (by decide)) (fun _ => ?_)
  refine x_iload C (dk ddX10_ofTwo 11 rfl) rfl ?_
  refine x_iconst C (v := (-1)) (dk ddX10_ofTwo 12 rfl) (by decide) ?_
  refine x_icmp_ge C (tgt := 31) (dk ddX10_ofTwo 13 rfl) (by decide) (fun h26 => ?_) (fun h26 => ?_)
  · have h26c := Int32.not_lt.mpr h26
    refine x_aload_n C (dk ddX10_ofTwo 16 rfl) rfl ?_
    refine x_iload_n C (dk ddX10_ofTwo 17 rfl) rfl ?_
    refine x_aload_n C (dk ddX10_ofTwo 18 rfl) rfl ?_
    refine x_getr C flX10_79 rfl (by have h_ := hC.1; omega) hC.fld.1 (show ax_R G a 12 = some (a + 615) from hC.fld.2.2 (12, 615) (by decide)) (dk ddX10_ofTwo 19 rfl) ?_
    refine x_callV C (ci := 10) (As := [.int (nI g), .ref (a + 615)]) (k_X10_workOutRings l D T o (d - 1) G I L a g (a + 615) (a + 616) gn gc hC (fun g hg => ⟨(by repeat (first | exact ax_u_at _ _ _ _ | exact (hgn g hg).1 | rw [ax_u_ne (by omega)] | rw [ax_u_nj (by decide)] | rw [ax_sc_ne (by omega)] | unfold ax_wrI | unfold ax_ldI | unfold ax_woI | unfold ax_rxI | unfold ax_frI0 | unfold ax_frI1 | unfold ax_frI2 | rw [hI_ _ (by omega)] | rw [hN_ (by omega)])), (hgn g hg).2⟩) (fun g hg => ⟨(by repeat (first | exact ax_u_at _ _ _ _ | exact (hgc g hg).1 | rw [ax_u_ne (by omega)] | rw [ax_u_nj (by decide)] | rw [ax_sc_ne (by omega)] | unfold ax_wrI | unfold ax_ldI | unfold ax_woI | unfold ax_rxI | unfold ax_frI0 | unfold ax_frI1 | unfold ax_frI2 | rw [hI_ _ (by omega)] | rw [hN_ (by omega)])), (hgc g hg).2⟩) (by omega) hC.rings (by omega) (by omega)) mlX10_129 rfl rfl (by have h_ := hC.1; omega) hC.fld.1 ⟨by show d - 1 + 1 ≤ d; omega, by show 40 * (d - 1 + 1) ≤ 40 * d; omega⟩ ⟨Nat.le_refl _, Nat.le_refl _⟩ rfl (Nat.le_of_ble_eq_true rfl) (dk ddX10_ofTwo 20 rfl) ?_
    rintro v_ G_ I_ L_ ⟨rfl, rfl, rfl, rfl⟩
    refine x_aload_n C (dk ddX10_ofTwo 21 rfl) rfl ?_
    refine x_iload_n C (dk ddX10_ofTwo 22 rfl) rfl ?_
    refine x_aload_n C (dk ddX10_ofTwo 23 rfl) rfl ?_
    refine x_getr C flX10_83 rfl (by have h_ := hC.1; omega) hC.fld.1 (show ax_R G a 13 = some (a + 617) from hC.fld.2.2 (13, 617) (by decide)) (dk ddX10_ofTwo 24 rfl) ?_
    refine x_callV C (ci := 10) (As := [.int (nI h), .ref (a + 617)]) (k_X10_workOutRings l D T o (d - 1) G (ax_wrI I a g (a + 615) gn) (ax_wrL I L a g (a + 616) gn gc) a h (a + 617) (a + 618) gn gc hC (fun g hg => ⟨(by repeat (first | exact ax_u_at _ _ _ _ | exact (hgn g hg).1 | rw [ax_u_ne (by omega)] | rw [ax_u_nj (by decide)] | rw [ax_sc_ne (by omega)] | unfold ax_wrI | unfold ax_ldI | unfold ax_woI | unfold ax_rxI | unfold ax_frI0 | unfold ax_frI1 | unfold ax_frI2 | rw [hI_ _ (by omega)] | rw [hN_ (by omega)])), (hgn g hg).2⟩) (fun g hg => ⟨(by repeat (first | exact ax_u_at _ _ _ _ | exact (hgc g hg).1 | rw [ax_u_ne (by omega)] | rw [ax_u_nj (by decide)] | rw [ax_sc_ne (by omega)] | unfold ax_wrI | unfold ax_ldI | unfold ax_woI | unfold ax_rxI | unfold ax_frI0 | unfold ax_frI1 | unfold ax_frI2 | rw [hI_ _ (by omega)] | rw [hN_ (by omega)])), (hgc g hg).2⟩) (by omega) hC.otherRings (by omega) (by omega)) mlX10_129 rfl rfl (by have h_ := hC.1; omega) hC.fld.1 ⟨by show d - 1 + 1 ≤ d; omega, by show 40 * (d - 1 + 1) ≤ 40 * d; omega⟩ ⟨Nat.le_refl _, Nat.le_refl _⟩ rfl (Nat.le_of_ble_eq_true rfl) (dk ddX10_ofTwo 25 rfl) ?_
    rintro v_ G_ I_ L_ ⟨rfl, rfl, rfl, rfl⟩
    refine x_aload_n C (dk ddX10_ofTwo 26 rfl) rfl ?_
    refine x_getr C flX10_86 rfl (by have h_ := hC.1; omega) hC.fld.1 (show ax_R G a 14 = some (a + 619) from hC.fld.2.2 (14, 619) (by decide)) (dk ddX10_ofTwo 27 rfl) ?_
    refine x_iload_n C (dk ddX10_ofTwo 28 rfl) rfl ?_
    refine x_aload_n C (dk ddX10_ofTwo 29 rfl) rfl ?_
    refine x_getr C flX10_79 rfl (by have h_ := hC.1; omega) hC.fld.1 (show ax_R G a 12 = some (a + 615) from hC.fld.2.2 (12, 615) (by decide)) (dk ddX10_ofTwo 30 rfl) ?_
    refine x_aload_n C (dk ddX10_ofTwo 31 rfl) rfl ?_
    refine x_getr C flX10_83 rfl (by have h_ := hC.1; omega) hC.fld.1 (show ax_R G a 13 = some (a + 617) from hC.fld.2.2 (13, 617) (by decide)) (dk ddX10_ofTwo 32 rfl) ?_
    refine x_callV C (ci := 4) (As := [.int (nI 3), .ref (a + 615), .ref (a + 617)]) (k_X4_ofTwoGroups_3 l D T o (d - 1) G (ax_wrI (ax_wrI I a g (a + 615) gn) a h (a + 617) gn) (ax_wrL (ax_wrI I a g (a + 615) gn) (ax_wrL I L a g (a + 616) gn gc) a h (a + 618) gn gc) (a + 619) (a + 620) (a + 615) (a + 616) (gn g) (a + 617) (a + 618) (gn h) hC.pairRings hC.rings (by repeat (first | exact ax_u_at _ _ _ _ | rw [ax_u_ne (by omega)] | rw [ax_u_nj (by decide)] | rw [ax_sc_ne (by omega)] | unfold ax_wrI | unfold ax_ldI | unfold ax_woI | unfold ax_rxI | unfold ax_frI0 | unfold ax_frI1 | unfold ax_frI2 | rw [hI_ _ (by omega)] | rw [hN_ (by omega)])) hC.otherRings (by repeat (first | exact ax_u_at _ _ _ _ | rw [ax_u_ne (by omega)] | rw [ax_u_nj (by decide)] | rw [ax_sc_ne (by omega)] | unfold ax_wrI | unfold ax_ldI | unfold ax_woI | unfold ax_rxI | unfold ax_frI0 | unfold ax_frI1 | unfold ax_frI2 | rw [hI_ _ (by omega)] | rw [hN_ (by omega)])) (by omega) (by omega) (hgn g (by omega)).2 (hgn h (by omega)).2 (by omega)) mlX10_175 rfl rfl hC.pairRings.1 hC.pairRings.2.1 ⟨by show d - 1 + 1 ≤ d; omega, by show 40 * (d - 1 + 1) ≤ 40 * d; omega⟩ ⟨Nat.le_refl _, Nat.le_refl _⟩ rfl (Nat.le_of_ble_eq_true rfl) (dk ddX10_ofTwo 33 rfl) ?_
    rintro v_ G_ I_ L_ ⟨rfl, rfl, rfl, rfl⟩
    refine x_aload_n C (dk ddX10_ofTwo 34 rfl) rfl ?_
    refine x_getr C flX10_86 rfl (by have h_ := hC.1; omega) hC.fld.1 (show ax_R G a 14 = some (a + 619) from hC.fld.2.2 (14, 619) (by decide)) (dk ddX10_ofTwo 35 rfl) ?_
    refine x_iload C (dk ddX10_ofTwo 36 rfl) rfl ?_
    refine x_callS C (As := [.ref (a + 619), .int (nI k)]) (k_X10_ownRing l D T o (d - 1) G (ax_u (ax_wrI (ax_wrI I a g (a + 615) gn) a h (a + 617) gn) (a + 619) 1 (nI ((gn h) * (gn g)))) (ax_edn (a + 620) ((gn h) * (gn g)) ((gn h) * (gn g)) (ax_tp3 (a + 620) (a + 616) (a + 618) (gn h) (gn g) (ax_wrL (ax_wrI I a g (a + 615) gn) (ax_wrL I L a g (a + 616) gn gc) a h (a + 618) gn gc))) (a + 619) (a + 620) ((gn h) * (gn g)) k hC.pairRings (by repeat (first | exact ax_u_at _ _ _ _ | rw [ax_u_ne (by omega)] | rw [ax_u_nj (by decide)] | rw [ax_sc_ne (by omega)] | unfold ax_ldI | unfold ax_woI | unfold ax_rxI | unfold ax_frI0 | unfold ax_frI1 | unfold ax_frI2 | rw [hI_ _ (by omega)] | rw [hN_ (by omega)])) (by omega) (by omega) (by omega)) mlX10_179 ⟨by show d - 1 + 1 ≤ d; omega, by show 40 * (d - 1 + 1) ≤ 40 * d; omega⟩ ⟨Nat.le_refl _, Nat.le_refl _⟩ rfl (Nat.le_of_ble_eq_true rfl) (dk ddX10_ofTwo 37 rfl) ?_
    rintro v_ G_ I_ L_ ⟨rfl, rfl, rfl, rfl⟩
    exact x_iret C rfl ⟨rfl, rfl, rfl, rfl⟩ rfl rfl (dk ddX10_ofTwo 38 rfl)
  · have h26c := Int32.not_le.mp h26
    exfalso
    exact absurd (Int32.not_le.mp h26) (ax_nn1 (by omega))
def ax_otI4_many (I : ax_I) (a : Nat) (g : Nat) (h : Nat) (gn : Nat → Nat) : ax_I := ax_u (ax_u (ax_u (ax_wrI (ax_wrI I a g (a + 615) gn) a h (a + 617) gn) (a + 619) 1 (nI 0)) (a + 619) 1 (nI (0 + (gn g)))) (a + 619) 1 (nI (0 + (gn g) + (gn h)))
def ax_otL4_many (I : ax_I) (L : ax_L) (a : Nat) (g : Nat) (h : Nat) (gn : Nat → Nat) (gc : Nat → Nat) : ax_L := ax_edn (a + 620) (0 + (gn g) + (gn h)) (0 + (gn g) + (gn h)) (ax_tka (a + 620) (a + 618) (0 + (gn g)) (gn h) (ax_tka (a + 620) (a + 616) 0 (gn g) (ax_wrL (ax_wrI I a g (a + 615) gn) (ax_wrL I L a g (a + 616) gn gc) a h (a + 618) gn gc)))
def ax_otv4_many (I : ax_I) (L : ax_L) (a : Nat) (g : Nat) (h : Nat) (gn : Nat → Nat) (gc : Nat → Nat) : Int32 := nI (ax_cn ((ax_edn (a + 620) (0 + (gn g) + (gn h)) (0 + (gn g) + (gn h)) (ax_tka (a + 620) (a + 618) (0 + (gn g)) (gn h) (ax_tka (a + 620) (a + 616) 0 (gn g) (ax_wrL (ax_wrI I a g (a + 615) gn) (ax_wrL I L a g (a + 616) gn gc) a h (a + 618) gn gc)))) (a + 620)) (0 + (gn g) + (gn h)))
set_option maxRecDepth 20000 in
/-- ofTwo(4, g, h, ..) -/
theorem k_X10_ofTwo_4_many (l : Launch) (D : va_G) (T : Nat → ClassId) (o d : Nat) (G : ax_G) (I : ax_I) (L : ax_L) (a g h : Nat) (gn gc : Nat → Nat) (hC : ax_Cls G a) (hgn : ∀ g, g < 6 → I (a + 1 + 1) g = nI (gn g) ∧ gn g ≤ 3) (hgc : ∀ g, g < 6 → I (a + 1 + 2) g = nI (gc g) ∧ gc g ≤ 4) (hg : g < 6) (hh : h < 6) (hd : 6 ≤ d) : ax_Con l D T o yX10_ofTwo cX10_ofTwo 5 (some .int) d 0 0 [.ref a, .int (nI 4), .int (nI g), .int (nI h), .int (-1)] G I L (fun zz G' I' L' => zz = some (.int (ax_otv4_many I L a g h gn gc)) ∧ G = G' ∧ (ax_otI4_many I a g h gn) = I' ∧ (ax_otL4_many I L a g h gn gc) = L') := by
  refine ax_enter (by decide +kernel) (Nat.le_of_ble_eq_true rfl) ?_
  intro p_ e_ s_ m_ args_ below_ meth_ c_ C _
  refine x_lvs (lv' := [(0, .ref a), (1, .int (nI 4)), (2, .int (nI g)), (3, .int (nI h)), (4, .int (-1))]) rfl ?_
  have hb_ := (hgn g hg).2
  have hb2_ := (hgn h hh).2
  have hm_ : gn h * gn g ≤ 3 * 3 := Nat.mul_le_mul hb2_ hb_
  refine x_iload_n C (dk ddX10_ofTwo 0 rfl) rfl ?_
  refine x_if_lt_n C (tgt := 29) (dk ddX10_ofTwo 1 rfl) (by decide) (by decide) (fun h_ => absurd h_ (by decide)) (fun _ => ?_)
  refine x_iload_n C (dk ddX10_ofTwo 2 rfl) rfl ?_
  refine x_iconst C (v := nI 4) (dk ddX10_ofTwo 3 rfl) (by decide) ?_
  refine x_icmp_gt_n C (tgt := 29) (dk ddX10_ofTwo 4 rfl) (by decide) (by decide) (by decide) (fun h_ => absurd h_ (by decide)) (fun _ => ?_)
  refine x_iload_n C (dk ddX10_ofTwo 5 rfl) rfl ?_
  refine x_callS C (As := [.int (nI g)]) (k_X10_isGroup l D T o (d - 1) G I L (nI g)) mlX10_98 ⟨by show d - 1 + 1 ≤ d; omega, by show 40 * (d - 1 + 1) ≤ 40 * d; omega⟩ ⟨Nat.le_refl _, Nat.le_refl _⟩ rfl (Nat.le_of_ble_eq_true rfl) (dk ddX10_ofTwo 6 rfl) ?_
  rintro v_ G_ I_ L_ ⟨rfl, rfl, rfl, rfl⟩
  rw [show (ax_rng (nI g) 6) = true from ax_rng_ok (h := 6) (by omega) (by decide)]
  refine x_if_eq_b C (tgt := 29) (dk ddX10_ofTwo 7 rfl) (by decide) (fun h_ => absurd h_ (by decide)) (fun _ => ?_)
  refine x_iload_n C (dk ddX10_ofTwo 8 rfl) rfl ?_
  refine x_callS C (As := [.int (nI h)]) (k_X10_isGroup l D T o (d - 1) G I L (nI h)) mlX10_98 ⟨by show d - 1 + 1 ≤ d; omega, by show 40 * (d - 1 + 1) ≤ 40 * d; omega⟩ ⟨Nat.le_refl _, Nat.le_refl _⟩ rfl (Nat.le_of_ble_eq_true rfl) (dk ddX10_ofTwo 9 rfl) ?_
  rintro v_ G_ I_ L_ ⟨rfl, rfl, rfl, rfl⟩
  rw [show (ax_rng (nI h) 6) = true from ax_rng_ok (h := 6) (by omega) (by decide)]
  refine x_if_eq_b C (tgt := 29) (dk ddX10_ofTwo 10 rfl) (by decide) (fun h_ => absurd h_ (by decide)) (fun _ => ?_)
  refine x_iload C (dk ddX10_ofTwo 11 rfl) rfl ?_
  refine x_iconst C (v := (-1)) (dk ddX10_ofTwo 12 rfl) (by decide) ?_
  refine x_icmp_ge C (tgt := 31) (dk ddX10_ofTwo 13 rfl) (by decide) (fun _ => ?_) (fun h_ => absurd h_ (by decide))
  refine x_aload_n C (dk ddX10_ofTwo 16 rfl) rfl ?_
  refine x_iload_n C (dk ddX10_ofTwo 17 rfl) rfl ?_
  refine x_aload_n C (dk ddX10_ofTwo 18 rfl) rfl ?_
  refine x_getr C flX10_79 rfl (by have h_ := hC.1; omega) hC.fld.1 (show ax_R G a 12 = some (a + 615) from hC.fld.2.2 (12, 615) (by decide)) (dk ddX10_ofTwo 19 rfl) ?_
  refine x_callV C (ci := 10) (As := [.int (nI g), .ref (a + 615)]) (k_X10_workOutRings l D T o (d - 1) G I L a g (a + 615) (a + 616) gn gc hC (fun g hg => ⟨(by repeat (first | exact ax_u_at _ _ _ _ | exact (hgn g hg).1 | rw [ax_u_ne (by omega)] | rw [ax_u_nj (by decide)] | rw [ax_sc_ne (by omega)] | unfold ax_wrI | unfold ax_ldI | unfold ax_woI | unfold ax_rxI | unfold ax_frI0 | unfold ax_frI1 | unfold ax_frI2 | rw [hI_ _ (by omega)] | rw [hN_ (by omega)])), (hgn g hg).2⟩) (fun g hg => ⟨(by repeat (first | exact ax_u_at _ _ _ _ | exact (hgc g hg).1 | rw [ax_u_ne (by omega)] | rw [ax_u_nj (by decide)] | rw [ax_sc_ne (by omega)] | unfold ax_wrI | unfold ax_ldI | unfold ax_woI | unfold ax_rxI | unfold ax_frI0 | unfold ax_frI1 | unfold ax_frI2 | rw [hI_ _ (by omega)] | rw [hN_ (by omega)])), (hgc g hg).2⟩) (by omega) hC.rings (by omega) (by omega)) mlX10_129 rfl rfl (by have h_ := hC.1; omega) hC.fld.1 ⟨by show d - 1 + 1 ≤ d; omega, by show 40 * (d - 1 + 1) ≤ 40 * d; omega⟩ ⟨Nat.le_refl _, Nat.le_refl _⟩ rfl (Nat.le_of_ble_eq_true rfl) (dk ddX10_ofTwo 20 rfl) ?_
  rintro v_ G_ I_ L_ ⟨rfl, rfl, rfl, rfl⟩
  refine x_aload_n C (dk ddX10_ofTwo 21 rfl) rfl ?_
  refine x_iload_n C (dk ddX10_ofTwo 22 rfl) rfl ?_
  refine x_aload_n C (dk ddX10_ofTwo 23 rfl) rfl ?_
  refine x_getr C flX10_83 rfl (by have h_ := hC.1; omega) hC.fld.1 (show ax_R G a 13 = some (a + 617) from hC.fld.2.2 (13, 617) (by decide)) (dk ddX10_ofTwo 24 rfl) ?_
  refine x_callV C (ci := 10) (As := [.int (nI h), .ref (a + 617)]) (k_X10_workOutRings l D T o (d - 1) G (ax_wrI I a g (a + 615) gn) (ax_wrL I L a g (a + 616) gn gc) a h (a + 617) (a + 618) gn gc hC (fun g hg => ⟨(by repeat (first | exact ax_u_at _ _ _ _ | exact (hgn g hg).1 | rw [ax_u_ne (by omega)] | rw [ax_u_nj (by decide)] | rw [ax_sc_ne (by omega)] | unfold ax_wrI | unfold ax_ldI | unfold ax_woI | unfold ax_rxI | unfold ax_frI0 | unfold ax_frI1 | unfold ax_frI2 | rw [hI_ _ (by omega)] | rw [hN_ (by omega)])), (hgn g hg).2⟩) (fun g hg => ⟨(by repeat (first | exact ax_u_at _ _ _ _ | exact (hgc g hg).1 | rw [ax_u_ne (by omega)] | rw [ax_u_nj (by decide)] | rw [ax_sc_ne (by omega)] | unfold ax_wrI | unfold ax_ldI | unfold ax_woI | unfold ax_rxI | unfold ax_frI0 | unfold ax_frI1 | unfold ax_frI2 | rw [hI_ _ (by omega)] | rw [hN_ (by omega)])), (hgc g hg).2⟩) (by omega) hC.otherRings (by omega) (by omega)) mlX10_129 rfl rfl (by have h_ := hC.1; omega) hC.fld.1 ⟨by show d - 1 + 1 ≤ d; omega, by show 40 * (d - 1 + 1) ≤ 40 * d; omega⟩ ⟨Nat.le_refl _, Nat.le_refl _⟩ rfl (Nat.le_of_ble_eq_true rfl) (dk ddX10_ofTwo 25 rfl) ?_
  rintro v_ G_ I_ L_ ⟨rfl, rfl, rfl, rfl⟩
  refine x_aload_n C (dk ddX10_ofTwo 26 rfl) rfl ?_
  refine x_getr C flX10_86 rfl (by have h_ := hC.1; omega) hC.fld.1 (show ax_R G a 14 = some (a + 619) from hC.fld.2.2 (14, 619) (by decide)) (dk ddX10_ofTwo 27 rfl) ?_
  refine x_iload_n C (dk ddX10_ofTwo 28 rfl) rfl ?_
  refine x_aload_n C (dk ddX10_ofTwo 29 rfl) rfl ?_
  refine x_getr C flX10_79 rfl (by have h_ := hC.1; omega) hC.fld.1 (show ax_R G a 12 = some (a + 615) from hC.fld.2.2 (12, 615) (by decide)) (dk ddX10_ofTwo 30 rfl) ?_
  refine x_aload_n C (dk ddX10_ofTwo 31 rfl) rfl ?_
  refine x_getr C flX10_83 rfl (by have h_ := hC.1; omega) hC.fld.1 (show ax_R G a 13 = some (a + 617) from hC.fld.2.2 (13, 617) (by decide)) (dk ddX10_ofTwo 32 rfl) ?_
  refine x_callV C (ci := 4) (As := [.int (nI 4), .ref (a + 615), .ref (a + 617)]) (k_X4_ofTwoGroups_4 l D T o (d - 1) G (ax_wrI (ax_wrI I a g (a + 615) gn) a h (a + 617) gn) (ax_wrL (ax_wrI I a g (a + 615) gn) (ax_wrL I L a g (a + 616) gn gc) a h (a + 618) gn gc) (a + 619) (a + 620) (a + 615) (a + 616) (gn g) (a + 617) (a + 618) (gn h) hC.pairRings hC.rings (by repeat (first | exact ax_u_at _ _ _ _ | rw [ax_u_ne (by omega)] | rw [ax_u_nj (by decide)] | rw [ax_sc_ne (by omega)] | unfold ax_wrI | unfold ax_ldI | unfold ax_woI | unfold ax_rxI | unfold ax_frI0 | unfold ax_frI1 | unfold ax_frI2 | rw [hI_ _ (by omega)] | rw [hN_ (by omega)])) hC.otherRings (by repeat (first | exact ax_u_at _ _ _ _ | rw [ax_u_ne (by omega)] | rw [ax_u_nj (by decide)] | rw [ax_sc_ne (by omega)] | unfold ax_wrI | unfold ax_ldI | unfold ax_woI | unfold ax_rxI | unfold ax_frI0 | unfold ax_frI1 | unfold ax_frI2 | rw [hI_ _ (by omega)] | rw [hN_ (by omega)])) (by omega) (by omega) (hgn g (by omega)).2 (hgn h (by omega)).2 (by omega)) mlX10_175 rfl rfl hC.pairRings.1 hC.pairRings.2.1 ⟨by show d - 1 + 1 ≤ d; omega, by show 40 * (d - 1 + 1) ≤ 40 * d; omega⟩ ⟨Nat.le_refl _, Nat.le_refl _⟩ rfl (Nat.le_of_ble_eq_true rfl) (dk ddX10_ofTwo 33 rfl) ?_
  rintro v_ G_ I_ L_ ⟨rfl, rfl, rfl, rfl⟩
  refine x_aload_n C (dk ddX10_ofTwo 34 rfl) rfl ?_
  refine x_getr C flX10_86 rfl (by have h_ := hC.1; omega) hC.fld.1 (show ax_R G a 14 = some (a + 619) from hC.fld.2.2 (14, 619) (by decide)) (dk ddX10_ofTwo 35 rfl) ?_
  refine x_iload C (dk ddX10_ofTwo 36 rfl) rfl ?_
  refine x_callS C (As := [.ref (a + 619), .int (-1)]) (k_X10_ownRing_many l D T o (d - 1) G (ax_u (ax_u (ax_u (ax_wrI (ax_wrI I a g (a + 615) gn) a h (a + 617) gn) (a + 619) 1 (nI 0)) (a + 619) 1 (nI (0 + (gn g)))) (a + 619) 1 (nI (0 + (gn g) + (gn h)))) (ax_edn (a + 620) (0 + (gn g) + (gn h)) (0 + (gn g) + (gn h)) (ax_tka (a + 620) (a + 618) (0 + (gn g)) (gn h) (ax_tka (a + 620) (a + 616) 0 (gn g) (ax_wrL (ax_wrI I a g (a + 615) gn) (ax_wrL I L a g (a + 616) gn gc) a h (a + 618) gn gc)))) (a + 619) (a + 620) (0 + (gn g) + (gn h)) hC.pairRings (by repeat (first | exact ax_u_at _ _ _ _ | rw [ax_u_ne (by omega)] | rw [ax_u_nj (by decide)] | rw [ax_sc_ne (by omega)] | unfold ax_ldI | unfold ax_woI | unfold ax_rxI | unfold ax_frI0 | unfold ax_frI1 | unfold ax_frI2 | rw [hI_ _ (by omega)] | rw [hN_ (by omega)])) (by omega) (by omega)) mlX10_179 ⟨by show d - 1 + 1 ≤ d; omega, by show 40 * (d - 1 + 1) ≤ 40 * d; omega⟩ ⟨Nat.le_refl _, Nat.le_refl _⟩ rfl (Nat.le_of_ble_eq_true rfl) (dk ddX10_ofTwo 37 rfl) ?_
  rintro v_ G_ I_ L_ ⟨rfl, rfl, rfl, rfl⟩
  exact x_iret C rfl ⟨rfl, rfl, rfl, rfl⟩ rfl rfl (dk ddX10_ofTwo 38 rfl)
def ax_otI4 (I : ax_I) (a : Nat) (g : Nat) (h : Nat) (gn : Nat → Nat) : ax_I := ax_u (ax_u (ax_u (ax_wrI (ax_wrI I a g (a + 615) gn) a h (a + 617) gn) (a + 619) 1 (nI 0)) (a + 619) 1 (nI (0 + (gn g)))) (a + 619) 1 (nI (0 + (gn g) + (gn h)))
def ax_otL4 (I : ax_I) (L : ax_L) (a : Nat) (g : Nat) (h : Nat) (gn : Nat → Nat) (gc : Nat → Nat) : ax_L := ax_edn (a + 620) (0 + (gn g) + (gn h)) (0 + (gn g) + (gn h)) (ax_tka (a + 620) (a + 618) (0 + (gn g)) (gn h) (ax_tka (a + 620) (a + 616) 0 (gn g) (ax_wrL (ax_wrI I a g (a + 615) gn) (ax_wrL I L a g (a + 616) gn gc) a h (a + 618) gn gc)))
def ax_otv4 (I : ax_I) (L : ax_L) (a : Nat) (g : Nat) (h : Nat) (k : Nat) (gn : Nat → Nat) (gc : Nat → Nat) : Int32 := if ax_cn ((ax_edn (a + 620) (0 + (gn g) + (gn h)) (0 + (gn g) + (gn h)) (ax_tka (a + 620) (a + 618) (0 + (gn g)) (gn h) (ax_tka (a + 620) (a + 616) 0 (gn g) (ax_wrL (ax_wrI I a g (a + 615) gn) (ax_wrL I L a g (a + 616) gn gc) a h (a + 618) gn gc)))) (a + 620)) (0 + (gn g) + (gn h)) ≤ k then (-3) else (ax_owc ((ax_edn (a + 620) (0 + (gn g) + (gn h)) (0 + (gn g) + (gn h)) (ax_tka (a + 620) (a + 618) (0 + (gn g)) (gn h) (ax_tka (a + 620) (a + 616) 0 (gn g) (ax_wrL (ax_wrI I a g (a + 615) gn) (ax_wrL I L a g (a + 616) gn gc) a h (a + 618) gn gc)))) (a + 620)) (0 + (gn g) + (gn h)) k).toInt32
set_option maxRecDepth 20000 in
/-- ofTwo(4, g, h, ..) -/
theorem k_X10_ofTwo_4 (l : Launch) (D : va_G) (T : Nat → ClassId) (o d : Nat) (G : ax_G) (I : ax_I) (L : ax_L) (a g h k : Nat) (gn gc : Nat → Nat) (hC : ax_Cls G a) (hgn : ∀ g, g < 6 → I (a + 1 + 1) g = nI (gn g) ∧ gn g ≤ 3) (hgc : ∀ g, g < 6 → I (a + 1 + 2) g = nI (gc g) ∧ gc g ≤ 4) (hg : g < 6) (hh : h < 6) (hk : k < 2 ^ 31) (hd : 6 ≤ d) : ax_Con l D T o yX10_ofTwo cX10_ofTwo 5 (some .int) d 0 0 [.ref a, .int (nI 4), .int (nI g), .int (nI h), .int (nI k)] G I L (fun zz G' I' L' => zz = some (.int (ax_otv4 I L a g h k gn gc)) ∧ G = G' ∧ (ax_otI4 I a g h gn) = I' ∧ (ax_otL4 I L a g h gn gc) = L') := by
  refine ax_enter (by decide +kernel) (Nat.le_of_ble_eq_true rfl) ?_
  intro p_ e_ s_ m_ args_ below_ meth_ c_ C _
  refine x_lvs (lv' := [(0, .ref a), (1, .int (nI 4)), (2, .int (nI g)), (3, .int (nI h)), (4, .int (nI k))]) rfl ?_
  have hb_ := (hgn g hg).2
  have hb2_ := (hgn h hh).2
  have hm_ : gn h * gn g ≤ 3 * 3 := Nat.mul_le_mul hb2_ hb_
  refine x_iload_n C (dk ddX10_ofTwo 0 rfl) rfl ?_
  refine x_if_lt_n C (tgt := 29) (dk ddX10_ofTwo 1 rfl) (by decide) (by decide) (fun h_ => absurd h_ (by decide)) (fun _ => ?_)
  refine x_iload_n C (dk ddX10_ofTwo 2 rfl) rfl ?_
  refine x_iconst C (v := nI 4) (dk ddX10_ofTwo 3 rfl) (by decide) ?_
  refine x_icmp_gt_n C (tgt := 29) (dk ddX10_ofTwo 4 rfl) (by decide) (by decide) (by decide) (fun h_ => absurd h_ (by decide)) (fun _ => ?_)
  refine x_iload_n C (dk ddX10_ofTwo 5 rfl) rfl ?_
  refine x_callS C (As := [.int (nI g)]) (k_X10_isGroup l D T o (d - 1) G I L (nI g)) mlX10_98 ⟨by show d - 1 + 1 ≤ d; omega, by show 40 * (d - 1 + 1) ≤ 40 * d; omega⟩ ⟨Nat.le_refl _, Nat.le_refl _⟩ rfl (Nat.le_of_ble_eq_true rfl) (dk ddX10_ofTwo 6 rfl) ?_
  rintro v_ G_ I_ L_ ⟨rfl, rfl, rfl, rfl⟩
  rw [show (ax_rng (nI g) 6) = true from ax_rng_ok (h := 6) (by omega) (by decide)]
  refine x_if_eq_b C (tgt := 29) (dk ddX10_ofTwo 7 rfl) (by decide) (fun h_ => absurd h_ (by decide)) (fun _ => ?_)
  refine x_iload_n C (dk ddX10_ofTwo 8 rfl) rfl ?_
  refine x_callS C (As := [.int (nI h)]) (k_X10_isGroup l D T o (d - 1) G I L (nI h)) mlX10_98 ⟨by show d - 1 + 1 ≤ d; omega, by show 40 * (d - 1 + 1) ≤ 40 * d; omega⟩ ⟨Nat.le_refl _, Nat.le_refl _⟩ rfl (Nat.le_of_ble_eq_true rfl) (dk ddX10_ofTwo 9 rfl) ?_
  rintro v_ G_ I_ L_ ⟨rfl, rfl, rfl, rfl⟩
  rw [show (ax_rng (nI h) 6) = true from ax_rng_ok (h := 6) (by omega) (by decide)]
  refine x_if_eq_b C (tgt := 29) (dk ddX10_ofTwo 10 rfl) (by decide) (fun h_ => absurd h_ (by decide)) (fun _ => ?_)
  refine x_iload C (dk ddX10_ofTwo 11 rfl) rfl ?_
  refine x_iconst C (v := (-1)) (dk ddX10_ofTwo 12 rfl) (by decide) ?_
  refine x_icmp_ge C (tgt := 31) (dk ddX10_ofTwo 13 rfl) (by decide) (fun h26 => ?_) (fun h26 => ?_)
  · have h26c := Int32.not_lt.mpr h26
    refine x_aload_n C (dk ddX10_ofTwo 16 rfl) rfl ?_
    refine x_iload_n C (dk ddX10_ofTwo 17 rfl) rfl ?_
    refine x_aload_n C (dk ddX10_ofTwo 18 rfl) rfl ?_
    refine x_getr C flX10_79 rfl (by have h_ := hC.1; omega) hC.fld.1 (show ax_R G a 12 = some (a + 615) from hC.fld.2.2 (12, 615) (by decide)) (dk ddX10_ofTwo 19 rfl) ?_
    refine x_callV C (ci := 10) (As := [.int (nI g), .ref (a + 615)]) (k_X10_workOutRings l D T o (d - 1) G I L a g (a + 615) (a + 616) gn gc hC (fun g hg => ⟨(by repeat (first | exact ax_u_at _ _ _ _ | exact (hgn g hg).1 | rw [ax_u_ne (by omega)] | rw [ax_u_nj (by decide)] | rw [ax_sc_ne (by omega)] | unfold ax_wrI | unfold ax_ldI | unfold ax_woI | unfold ax_rxI | unfold ax_frI0 | unfold ax_frI1 | unfold ax_frI2 | rw [hI_ _ (by omega)] | rw [hN_ (by omega)])), (hgn g hg).2⟩) (fun g hg => ⟨(by repeat (first | exact ax_u_at _ _ _ _ | exact (hgc g hg).1 | rw [ax_u_ne (by omega)] | rw [ax_u_nj (by decide)] | rw [ax_sc_ne (by omega)] | unfold ax_wrI | unfold ax_ldI | unfold ax_woI | unfold ax_rxI | unfold ax_frI0 | unfold ax_frI1 | unfold ax_frI2 | rw [hI_ _ (by omega)] | rw [hN_ (by omega)])), (hgc g hg).2⟩) (by omega) hC.rings (by omega) (by omega)) mlX10_129 rfl rfl (by have h_ := hC.1; omega) hC.fld.1 ⟨by show d - 1 + 1 ≤ d; omega, by show 40 * (d - 1 + 1) ≤ 40 * d; omega⟩ ⟨Nat.le_refl _, Nat.le_refl _⟩ rfl (Nat.le_of_ble_eq_true rfl) (dk ddX10_ofTwo 20 rfl) ?_
    rintro v_ G_ I_ L_ ⟨rfl, rfl, rfl, rfl⟩
    refine x_aload_n C (dk ddX10_ofTwo 21 rfl) rfl ?_
    refine x_iload_n C (dk ddX10_ofTwo 22 rfl) rfl ?_
    refine x_aload_n C (dk ddX10_ofTwo 23 rfl) rfl ?_
    refine x_getr C flX10_83 rfl (by have h_ := hC.1; omega) hC.fld.1 (show ax_R G a 13 = some (a + 617) from hC.fld.2.2 (13, 617) (by decide)) (dk ddX10_ofTwo 24 rfl) ?_
    refine x_callV C (ci := 10) (As := [.int (nI h), .ref (a + 617)]) (k_X10_workOutRings l D T o (d - 1) G (ax_wrI I a g (a + 615) gn) (ax_wrL I L a g (a + 616) gn gc) a h (a + 617) (a + 618) gn gc hC (fun g hg => ⟨(by repeat (first | exact ax_u_at _ _ _ _ | exact (hgn g hg).1 | rw [ax_u_ne (by omega)] | rw [ax_u_nj (by decide)] | rw [ax_sc_ne (by omega)] | unfold ax_wrI | unfold ax_ldI | unfold ax_woI | unfold ax_rxI | unfold ax_frI0 | unfold ax_frI1 | unfold ax_frI2 | rw [hI_ _ (by omega)] | rw [hN_ (by omega)])), (hgn g hg).2⟩) (fun g hg => ⟨(by repeat (first | exact ax_u_at _ _ _ _ | exact (hgc g hg).1 | rw [ax_u_ne (by omega)] | rw [ax_u_nj (by decide)] | rw [ax_sc_ne (by omega)] | unfold ax_wrI | unfold ax_ldI | unfold ax_woI | unfold ax_rxI | unfold ax_frI0 | unfold ax_frI1 | unfold ax_frI2 | rw [hI_ _ (by omega)] | rw [hN_ (by omega)])), (hgc g hg).2⟩) (by omega) hC.otherRings (by omega) (by omega)) mlX10_129 rfl rfl (by have h_ := hC.1; omega) hC.fld.1 ⟨by show d - 1 + 1 ≤ d; omega, by show 40 * (d - 1 + 1) ≤ 40 * d; omega⟩ ⟨Nat.le_refl _, Nat.le_refl _⟩ rfl (Nat.le_of_ble_eq_true rfl) (dk ddX10_ofTwo 25 rfl) ?_
    rintro v_ G_ I_ L_ ⟨rfl, rfl, rfl, rfl⟩
    refine x_aload_n C (dk ddX10_ofTwo 26 rfl) rfl ?_
    refine x_getr C flX10_86 rfl (by have h_ := hC.1; omega) hC.fld.1 (show ax_R G a 14 = some (a + 619) from hC.fld.2.2 (14, 619) (by decide)) (dk ddX10_ofTwo 27 rfl) ?_
    refine x_iload_n C (dk ddX10_ofTwo 28 rfl) rfl ?_
    refine x_aload_n C (dk ddX10_ofTwo 29 rfl) rfl ?_
    refine x_getr C flX10_79 rfl (by have h_ := hC.1; omega) hC.fld.1 (show ax_R G a 12 = some (a + 615) from hC.fld.2.2 (12, 615) (by decide)) (dk ddX10_ofTwo 30 rfl) ?_
    refine x_aload_n C (dk ddX10_ofTwo 31 rfl) rfl ?_
    refine x_getr C flX10_83 rfl (by have h_ := hC.1; omega) hC.fld.1 (show ax_R G a 13 = some (a + 617) from hC.fld.2.2 (13, 617) (by decide)) (dk ddX10_ofTwo 32 rfl) ?_
    refine x_callV C (ci := 4) (As := [.int (nI 4), .ref (a + 615), .ref (a + 617)]) (k_X4_ofTwoGroups_4 l D T o (d - 1) G (ax_wrI (ax_wrI I a g (a + 615) gn) a h (a + 617) gn) (ax_wrL (ax_wrI I a g (a + 615) gn) (ax_wrL I L a g (a + 616) gn gc) a h (a + 618) gn gc) (a + 619) (a + 620) (a + 615) (a + 616) (gn g) (a + 617) (a + 618) (gn h) hC.pairRings hC.rings (by repeat (first | exact ax_u_at _ _ _ _ | rw [ax_u_ne (by omega)] | rw [ax_u_nj (by decide)] | rw [ax_sc_ne (by omega)] | unfold ax_wrI | unfold ax_ldI | unfold ax_woI | unfold ax_rxI | unfold ax_frI0 | unfold ax_frI1 | unfold ax_frI2 | rw [hI_ _ (by omega)] | rw [hN_ (by omega)])) hC.otherRings (by repeat (first | exact ax_u_at _ _ _ _ | rw [ax_u_ne (by omega)] | rw [ax_u_nj (by decide)] | rw [ax_sc_ne (by omega)] | unfold ax_wrI | unfold ax_ldI | unfold ax_woI | unfold ax_rxI | unfold ax_frI0 | unfold ax_frI1 | unfold ax_frI2 | rw [hI_ _ (by omega)] | rw [hN_ (by omega)])) (by omega) (by omega) (hgn g (by omega)).2 (hgn h (by omega)).2 (by omega)) mlX10_175 rfl rfl hC.pairRings.1 hC.pairRings.2.1 ⟨by show d - 1 + 1 ≤ d; omega, by show 40 * (d - 1 + 1) ≤ 40 * d; omega⟩ ⟨Nat.le_refl _, Nat.le_refl _⟩ rfl (Nat.le_of_ble_eq_true rfl) (dk ddX10_ofTwo 33 rfl) ?_
    rintro v_ G_ I_ L_ ⟨rfl, rfl, rfl, rfl⟩
    refine x_aload_n C (dk ddX10_ofTwo 34 rfl) rfl ?_
    refine x_getr C flX10_86 rfl (by have h_ := hC.1; omega) hC.fld.1 (show ax_R G a 14 = some (a + 619) from hC.fld.2.2 (14, 619) (by decide)) (dk ddX10_ofTwo 35 rfl) ?_
    refine x_iload C (dk ddX10_ofTwo 36 rfl) rfl ?_
    refine x_callS C (As := [.ref (a + 619), .int (nI k)]) (k_X10_ownRing l D T o (d - 1) G (ax_u (ax_u (ax_u (ax_wrI (ax_wrI I a g (a + 615) gn) a h (a + 617) gn) (a + 619) 1 (nI 0)) (a + 619) 1 (nI (0 + (gn g)))) (a + 619) 1 (nI (0 + (gn g) + (gn h)))) (ax_edn (a + 620) (0 + (gn g) + (gn h)) (0 + (gn g) + (gn h)) (ax_tka (a + 620) (a + 618) (0 + (gn g)) (gn h) (ax_tka (a + 620) (a + 616) 0 (gn g) (ax_wrL (ax_wrI I a g (a + 615) gn) (ax_wrL I L a g (a + 616) gn gc) a h (a + 618) gn gc)))) (a + 619) (a + 620) (0 + (gn g) + (gn h)) k hC.pairRings (by repeat (first | exact ax_u_at _ _ _ _ | rw [ax_u_ne (by omega)] | rw [ax_u_nj (by decide)] | rw [ax_sc_ne (by omega)] | unfold ax_ldI | unfold ax_woI | unfold ax_rxI | unfold ax_frI0 | unfold ax_frI1 | unfold ax_frI2 | rw [hI_ _ (by omega)] | rw [hN_ (by omega)])) (by omega) (by omega) (by omega)) mlX10_179 ⟨by show d - 1 + 1 ≤ d; omega, by show 40 * (d - 1 + 1) ≤ 40 * d; omega⟩ ⟨Nat.le_refl _, Nat.le_refl _⟩ rfl (Nat.le_of_ble_eq_true rfl) (dk ddX10_ofTwo 37 rfl) ?_
    rintro v_ G_ I_ L_ ⟨rfl, rfl, rfl, rfl⟩
    exact x_iret C rfl ⟨rfl, rfl, rfl, rfl⟩ rfl rfl (dk ddX10_ofTwo 38 rfl)
  · have h26c := Int32.not_le.mp h26
    exfalso
    exact absurd (Int32.not_le.mp h26) (ax_nn1 (by omega))
