/-! ===== the class: Diagram ===== -/
/-- a Diagram: itself and what lies behind it -/
def ax_Dg (G : ax_G) (a : Nat) : Prop := a + 120 ≤ ax_top G ∧ ax_At G a tX0
theorem ax_Dg.work {G : ax_G} {a : Nat} (h : ax_Dg G a) : ax_Mw G (a + 2) := by
  have k2 : ((List.range 57).all fun j => decide (tX0[2 + j]? = (ax_shf 2 tX3)[j]?)) = true := by decide +kernel
  have hl : tX3.length = 57 := by decide +kernel
  exact ⟨by have := h.1; omega, h.2.part fun j hj => of_decide_eq_true (List.all_eq_true.mp k2 j (List.mem_range.mpr (by omega)))⟩
theorem ax_Dg.nextWork {G : ax_G} {a : Nat} (h : ax_Dg G a) : ax_Mw G (a + 59) := by
  have k2 : ((List.range 57).all fun j => decide (tX0[59 + j]? = (ax_shf 59 tX3)[j]?)) = true := by decide +kernel
  have hl : tX3.length = 57 := by decide +kernel
  exact ⟨by have := h.1; omega, h.2.part fun j hj => of_decide_eq_true (List.all_eq_true.mp k2 j (List.mem_range.mpr (by omega)))⟩
theorem ax_Dg.fld {G : ax_G} {a : Nat} (h : ax_Dg G a) : ax_K G a = 8 + 0 ∧ ax_N G a = 0 ∧ ∀ q ∈ [(6, 119), (5, 118), (4, 117), (3, 116), (2, 59), (1, 2), (0, 1)], ax_R G a q.1 = some (a + q.2) := h.2 0 (8, 0, [(6, 119), (5, 118), (4, 117), (3, 116), (2, 59), (1, 2), (0, 1)]) (by decide +kernel)
theorem ax_Dg.maps {G : ax_G} {a : Nat} (h : ax_Dg G a) : a + 1 < ax_top G ∧ ax_K G (a + 1) = 0 ∧ ax_N G (a + 1) = 7 := ⟨by have := h.1; omega, (h.2 1 (0, 7, []) (by decide +kernel)).1, (h.2 1 (0, 7, []) (by decide +kernel)).2.1⟩
theorem ax_Dg.start {G : ax_G} {a : Nat} (h : ax_Dg G a) : ax_La G (a + 116) 6 := ⟨by have := h.1; omega, (h.2 116 (2, 6, []) (by decide +kernel)).1, (h.2 116 (2, 6, []) (by decide +kernel)).2.1⟩
theorem ax_Dg.middle {G : ax_G} {a : Nat} (h : ax_Dg G a) : ax_La G (a + 117) 6 := ⟨by have := h.1; omega, (h.2 117 (2, 6, []) (by decide +kernel)).1, (h.2 117 (2, 6, []) (by decide +kernel)).2.1⟩
theorem ax_Dg.end_ {G : ax_G} {a : Nat} (h : ax_Dg G a) : ax_La G (a + 118) 6 := ⟨by have := h.1; omega, (h.2 118 (2, 6, []) (by decide +kernel)).1, (h.2 118 (2, 6, []) (by decide +kernel)).2.1⟩
theorem ax_Dg.otherEnd {G : ax_G} {a : Nat} (h : ax_Dg G a) : ax_La G (a + 119) 6 := ⟨by have := h.1; omega, (h.2 119 (2, 6, []) (by decide +kernel)).1, (h.2 119 (2, 6, []) (by decide +kernel)).2.1⟩
set_option maxRecDepth 20000 in
/-- from -/
theorem k_X0_from (l : Launch) (D : va_G) (T : Nat → ClassId) (o d : Nat) (G : ax_G) (I : ax_I) (L : ax_L) (a s : Nat) (mp fr : Nat → Nat) (j : Nat) (hD : ax_Dg G a) (hs : ax_Sta G s) (hmp : ∀ j, j < 7 → I (a + 1) j = nI (mp j) ∧ mp j < 8) (hfr : ∀ j, j < 7 → I (s + 4) (mp j) = nI (fr j) ∧ fr j < 6) (hj : j < 7) : ax_Con l D T o yX0_from cX0_from 3 (some .int) d 0 0 [.ref a, .ref s, .int (nI j)] G I L (fun zz G' I' L' => zz = some (.int (nI (fr j))) ∧ G = G' ∧ I = I' ∧ L = L') := by
  refine ax_enter (by decide +kernel) (Nat.le_of_ble_eq_true rfl) ?_
  intro p_ e_ s_ m_ args_ below_ meth_ c_ C _
  refine x_lvs (lv' := [(0, .ref a), (1, .ref s), (2, .int (nI j))]) rfl ?_
  refine x_aload_n C (dk ddX0_from 0 rfl) rfl ?_
  refine x_getr C flX0_51 rfl (by have h_ := hs.1; omega) (show ax_K G s = 8 + 7 from (hs.2 0 _ rfl).1) (show ax_R G s 3 = some (s + 4) from (hs.2 0 _ rfl).2.2 (3, 4) (by decide)) (dk ddX0_from 1 rfl) ?_
  refine x_aload_n C (dk ddX0_from 2 rfl) rfl ?_
  refine x_getr C flX0_11 rfl (by have h_ := hD.1; omega) hD.fld.1 (show ax_R G a 0 = some (a + 1) from hD.fld.2.2 (0, 1) (by decide)) (dk ddX0_from 3 rfl) ?_
  refine x_iload_n C (dk ddX0_from 4 rfl) rfl ?_
  refine x_iald_n C hD.maps.1 hD.maps.2.1 hD.maps.2.2 (by omega) (by decide) (dk ddX0_from 5 rfl) ?_
  rw [show (I (a + 1) j) = nI (mp j) from (by repeat (first | exact ax_u_at _ _ _ _ | exact (hmp j (by omega)).1 | rw [ax_u_ne (by omega)] | unfold ax_ldI | unfold ax_woI | unfold ax_rxI | rw [hI_ _ (by omega)]))]
  refine x_iald_n C (by have h_ := hs.1; omega) (show ax_K G (s + 4) = 0 from (hs.2 4 _ rfl).1) (show ax_N G (s + 4) = 8 from (hs.2 4 _ rfl).2.1) (by have h_ := (hmp j (by omega)).2; omega) (by decide) (dk ddX0_from 6 rfl) ?_
  rw [show (I (s + 4) (mp j)) = nI (fr j) from (by repeat (first | exact ax_u_at _ _ _ _ | exact (hfr j (by omega)).1 | rw [ax_u_ne (by omega)] | unfold ax_ldI | unfold ax_woI | unfold ax_rxI | rw [hI_ _ (by omega)]))]
  exact x_iret C rfl ⟨rfl, rfl, rfl, rfl⟩ rfl rfl (dk ddX0_from 7 rfl)
set_option maxRecDepth 20000 in
/-- to -/
theorem k_X0_to (l : Launch) (D : va_G) (T : Nat → ClassId) (o d : Nat) (G : ax_G) (I : ax_I) (L : ax_L) (a s : Nat) (mp tg : Nat → Nat) (j : Nat) (hD : ax_Dg G a) (hs : ax_Sta G s) (hmp : ∀ j, j < 7 → I (a + 1) j = nI (mp j) ∧ mp j < 8) (htg : ∀ j, j < 7 → I (s + 5) (mp j) = nI (tg j) ∧ tg j < 6) (hj : j < 7) : ax_Con l D T o yX0_to cX0_to 3 (some .int) d 0 0 [.ref a, .ref s, .int (nI j)] G I L (fun zz G' I' L' => zz = some (.int (nI (tg j))) ∧ G = G' ∧ I = I' ∧ L = L') := by
  refine ax_enter (by decide +kernel) (Nat.le_of_ble_eq_true rfl) ?_
  intro p_ e_ s_ m_ args_ below_ meth_ c_ C _
  refine x_lvs (lv' := [(0, .ref a), (1, .ref s), (2, .int (nI j))]) rfl ?_
  refine x_aload_n C (dk ddX0_to 0 rfl) rfl ?_
  refine x_getr C flX0_53 rfl (by have h_ := hs.1; omega) (show ax_K G s = 8 + 7 from (hs.2 0 _ rfl).1) (show ax_R G s 4 = some (s + 5) from (hs.2 0 _ rfl).2.2 (4, 5) (by decide)) (dk ddX0_to 1 rfl) ?_
  refine x_aload_n C (dk ddX0_to 2 rfl) rfl ?_
  refine x_getr C flX0_11 rfl (by have h_ := hD.1; omega) hD.fld.1 (show ax_R G a 0 = some (a + 1) from hD.fld.2.2 (0, 1) (by decide)) (dk ddX0_to 3 rfl) ?_
  refine x_iload_n C (dk ddX0_to 4 rfl) rfl ?_
  refine x_iald_n C hD.maps.1 hD.maps.2.1 hD.maps.2.2 (by omega) (by decide) (dk ddX0_to 5 rfl) ?_
  rw [show (I (a + 1) j) = nI (mp j) from (by repeat (first | exact ax_u_at _ _ _ _ | exact (hmp j (by omega)).1 | rw [ax_u_ne (by omega)] | unfold ax_ldI | unfold ax_woI | unfold ax_rxI | rw [hI_ _ (by omega)]))]
  refine x_iald_n C (by have h_ := hs.1; omega) (show ax_K G (s + 5) = 0 from (hs.2 5 _ rfl).1) (show ax_N G (s + 5) = 8 from (hs.2 5 _ rfl).2.1) (by have h_ := (hmp j (by omega)).2; omega) (by decide) (dk ddX0_to 6 rfl) ?_
  rw [show (I (s + 5) (mp j)) = nI (tg j) from (by repeat (first | exact ax_u_at _ _ _ _ | exact (htg j (by omega)).1 | rw [ax_u_ne (by omega)] | unfold ax_ldI | unfold ax_woI | unfold ax_rxI | rw [hI_ _ (by omega)]))]
  exact x_iret C rfl ⟨rfl, rfl, rfl, rfl⟩ rfl rfl (dk ddX0_to 7 rfl)
set_option maxRecDepth 20000 in
/-- lowerFirst -/
theorem k_X0_lowerFirst (l : Launch) (D : va_G) (T : Nat → ClassId) (o d : Nat) (G : ax_G) (I : ax_I) (L : ax_L) (a s : Nat) (mp fr tg gn gc : Nat → Nat) (hD : ax_Dg G a) (hs : ax_Sta G s) (has : a + 120 ≤ s ∨ s + 14 ≤ a) (hmp : ∀ j, j < 7 → I (a + 1) j = nI (mp j) ∧ mp j < 8) (hfr : ∀ j, j < 7 → I (s + 4) (mp j) = nI (fr j) ∧ fr j < 6) (htg : ∀ j, j < 7 → I (s + 5) (mp j) = nI (tg j) ∧ tg j < 6) (hgn : ∀ g, g < 6 → I (s + 1) g = nI (gn g) ∧ gn g ≤ 3) (hgc : ∀ g, g < 6 → I (s + 2) g = nI (gc g) ∧ gc g ≤ 4) (hd : 1 ≤ d) : ax_Con l D T o yX0_lowerFirst cX0_lowerFirst 2 (some .int) d 0 0 [.ref a, .ref s] G I L (fun zz G' I' L' => zz = some (.int (nI (fr 2))) ∧ G = G' ∧ I = I' ∧ L = L') := by
  refine ax_enter (by decide +kernel) (Nat.le_of_ble_eq_true rfl) ?_
  intro p_ e_ s_ m_ args_ below_ meth_ c_ C _
  refine x_lvs (lv' := [(0, .ref a), (1, .ref s)]) rfl ?_
  refine x_aload_n C (dk ddX0_lowerFirst 0 rfl) rfl ?_
  refine x_aload_n C (dk ddX0_lowerFirst 1 rfl) rfl ?_
  refine x_iconst C (v := nI 2) (dk ddX0_lowerFirst 2 rfl) (by decide) ?_
  refine x_callV C (ci := 0) (As := [.ref s, .int (nI 2)]) (k_X0_from l D T o (d - 1) G I L a s mp fr 2 hD hs (fun j hj => ⟨(by repeat (first | exact ax_u_at _ _ _ _ | exact (hmp j hj).1 | rw [ax_u_ne (by omega)] | unfold ax_ldI | unfold ax_woI | unfold ax_rxI | rw [hI_ _ (by omega)])), (hmp j hj).2⟩) (fun j hj => ⟨(by repeat (first | exact ax_u_at _ _ _ _ | exact (hfr j hj).1 | rw [ax_u_ne (by omega)] | unfold ax_ldI | unfold ax_woI | unfold ax_rxI | rw [hI_ _ (by omega)])), (hfr j hj).2⟩) (by omega)) mlX0_48 rfl rfl (by have h_ := hD.1; omega) hD.fld.1 ⟨by show d - 1 + 1 ≤ d; omega, by show 40 * (d - 1 + 1) ≤ 40 * d; omega⟩ ⟨Nat.le_refl _, Nat.le_refl _⟩ rfl (Nat.le_of_ble_eq_true rfl) (dk ddX0_lowerFirst 3 rfl) ?_
  rintro v_ G_ I_ L_ ⟨rfl, rfl, rfl, rfl⟩
  exact x_iret C rfl ⟨rfl, rfl, rfl, rfl⟩ rfl rfl (dk ddX0_lowerFirst 4 rfl)
set_option maxRecDepth 20000 in
/-- upperLast -/
theorem k_X0_upperLast (l : Launch) (D : va_G) (T : Nat → ClassId) (o d : Nat) (G : ax_G) (I : ax_I) (L : ax_L) (a s : Nat) (mp fr tg gn gc : Nat → Nat) (hD : ax_Dg G a) (hs : ax_Sta G s) (has : a + 120 ≤ s ∨ s + 14 ≤ a) (hmp : ∀ j, j < 7 → I (a + 1) j = nI (mp j) ∧ mp j < 8) (hfr : ∀ j, j < 7 → I (s + 4) (mp j) = nI (fr j) ∧ fr j < 6) (htg : ∀ j, j < 7 → I (s + 5) (mp j) = nI (tg j) ∧ tg j < 6) (hgn : ∀ g, g < 6 → I (s + 1) g = nI (gn g) ∧ gn g ≤ 3) (hgc : ∀ g, g < 6 → I (s + 2) g = nI (gc g) ∧ gc g ≤ 4) (hd : 1 ≤ d) : ax_Con l D T o yX0_upperLast cX0_upperLast 2 (some .int) d 0 0 [.ref a, .ref s] G I L (fun zz G' I' L' => zz = some (.int (nI (tg 1))) ∧ G = G' ∧ I = I' ∧ L = L') := by
  refine ax_enter (by decide +kernel) (Nat.le_of_ble_eq_true rfl) ?_
  intro p_ e_ s_ m_ args_ below_ meth_ c_ C _
  refine x_lvs (lv' := [(0, .ref a), (1, .ref s)]) rfl ?_
  refine x_aload_n C (dk ddX0_upperLast 0 rfl) rfl ?_
  refine x_aload_n C (dk ddX0_upperLast 1 rfl) rfl ?_
  refine x_iconst C (v := nI 1) (dk ddX0_upperLast 2 rfl) (by decide) ?_
  refine x_callV C (ci := 0) (As := [.ref s, .int (nI 1)]) (k_X0_to l D T o (d - 1) G I L a s mp tg 1 hD hs (fun j hj => ⟨(by repeat (first | exact ax_u_at _ _ _ _ | exact (hmp j hj).1 | rw [ax_u_ne (by omega)] | unfold ax_ldI | unfold ax_woI | unfold ax_rxI | rw [hI_ _ (by omega)])), (hmp j hj).2⟩) (fun j hj => ⟨(by repeat (first | exact ax_u_at _ _ _ _ | exact (htg j hj).1 | rw [ax_u_ne (by omega)] | unfold ax_ldI | unfold ax_woI | unfold ax_rxI | rw [hI_ _ (by omega)])), (htg j hj).2⟩) (by omega)) mlX0_44 rfl rfl (by have h_ := hD.1; omega) hD.fld.1 ⟨by show d - 1 + 1 ≤ d; omega, by show 40 * (d - 1 + 1) ≤ 40 * d; omega⟩ ⟨Nat.le_refl _, Nat.le_refl _⟩ rfl (Nat.le_of_ble_eq_true rfl) (dk ddX0_upperLast 3 rfl) ?_
  rintro v_ G_ I_ L_ ⟨rfl, rfl, rfl, rfl⟩
  exact x_iret C rfl ⟨rfl, rfl, rfl, rfl⟩ rfl rfl (dk ddX0_upperLast 4 rfl)
def ax_gbo (I : ax_I) (L : ax_L) (a : Nat) (s : Nat) (mp : Nat → Nat) (i : Nat) (j : Nat) (r : Nat) : ax_L := ax_apt I (s + 6) (9 * (mp j)) (a + 117) r (ax_apt I (s + 6) (9 * (mp i)) (a + 116) (a + 117) L 3) 3
set_option maxRecDepth 20000 in
/-- goBoth(i, j, row) -/
theorem k_X0_goBoth (l : Launch) (D : va_G) (T : Nat → ClassId) (o d : Nat) (G : ax_G) (I : ax_I) (L : ax_L) (a s : Nat) (mp fr tg gn gc : Nat → Nat) (i j r : Nat) (hD : ax_Dg G a) (hs : ax_Sta G s) (has : a + 120 ≤ s ∨ s + 14 ≤ a) (hmp : ∀ j, j < 7 → I (a + 1) j = nI (mp j) ∧ mp j < 8) (hfr : ∀ j, j < 7 → I (s + 4) (mp j) = nI (fr j) ∧ fr j < 6) (htg : ∀ j, j < 7 → I (s + 5) (mp j) = nI (tg j) ∧ tg j < 6) (hgn : ∀ g, g < 6 → I (s + 1) g = nI (gn g) ∧ gn g ≤ 3) (hgc : ∀ g, g < 6 → I (s + 2) g = nI (gc g) ∧ gc g ≤ 4) (hi : i < 7) (hj : j < 7) (hr : ax_La G r 6) (hd : 2 ≤ d) : ax_Con l D T o yX0_goBoth cX0_goBoth 5 none d 0 0 [.ref a, .ref s, .int (nI i), .int (nI j), .ref r] G I L (fun zz G' I' L' => zz = none ∧ G = G' ∧ I = I' ∧ (ax_gbo I L a s mp i j r) = L') := by
  refine ax_enter (by decide +kernel) (Nat.le_of_ble_eq_true rfl) ?_
  intro p_ e_ s_ m_ args_ below_ meth_ c_ C _
  refine x_lvs (lv' := [(0, .ref a), (1, .ref s), (2, .int (nI i)), (3, .int (nI j)), (4, .ref r)]) rfl ?_
  refine x_aload_n C (dk ddX0_goBoth 0 rfl) rfl ?_
  refine x_aload_n C (dk ddX0_goBoth 1 rfl) rfl ?_
  refine x_getr C flX0_11 rfl (by have h_ := hD.1; omega) hD.fld.1 (show ax_R G a 0 = some (a + 1) from hD.fld.2.2 (0, 1) (by decide)) (dk ddX0_goBoth 2 rfl) ?_
  refine x_iload_n C (dk ddX0_goBoth 3 rfl) rfl ?_
  refine x_iald_n C hD.maps.1 hD.maps.2.1 hD.maps.2.2 (by omega) (by decide) (dk ddX0_goBoth 4 rfl) ?_
  rw [show (I (a + 1) i) = nI (mp i) from (by repeat (first | exact ax_u_at _ _ _ _ | exact (hmp i (by omega)).1 | rw [ax_u_ne (by omega)] | unfold ax_ldI | unfold ax_woI | unfold ax_rxI | rw [hI_ _ (by omega)]))]
  refine x_aload_n C (dk ddX0_goBoth 5 rfl) rfl ?_
  refine x_getr C flX0_25 rfl (by have h_ := hD.1; omega) hD.fld.1 (show ax_R G a 3 = some (a + 116) from hD.fld.2.2 (3, 116) (by decide)) (dk ddX0_goBoth 6 rfl) ?_
  refine x_aload_n C (dk ddX0_goBoth 7 rfl) rfl ?_
  refine x_getr C flX0_29 rfl (by have h_ := hD.1; omega) hD.fld.1 (show ax_R G a 4 = some (a + 117) from hD.fld.2.2 (4, 117) (by decide)) (dk ddX0_goBoth 8 rfl) ?_
  refine x_callV C (ci := 7) (As := [.int (nI (mp i)), .ref (a + 116), .ref (a + 117)]) (k_X7_mapRow l D T o (d - 1) G I L s (mp i) (a + 116) (a + 117) 6 6 hs (hmp i (by omega)).2 ⟨hD.start.1, hD.start.2.1, hD.start.2.2⟩ (by decide) (by decide) ⟨hD.middle.1, hD.middle.2.1, hD.middle.2.2⟩ (by decide) (by decide) (by omega)) mlX0_115 rfl rfl (by have h_ := hs.1; omega) (show ax_K G s = 8 + 7 from (hs.2 0 _ rfl).1) ⟨by show d - 1 + 1 ≤ d; omega, by show 40 * (d - 1 + 1) ≤ 40 * d; omega⟩ ⟨Nat.le_refl _, Nat.le_refl _⟩ rfl (Nat.le_of_ble_eq_true rfl) (dk ddX0_goBoth 9 rfl) ?_
  rintro v_ G_ I_ L_ ⟨rfl, rfl, rfl, rfl⟩
  refine x_aload_n C (dk ddX0_goBoth 10 rfl) rfl ?_
  refine x_aload_n C (dk ddX0_goBoth 11 rfl) rfl ?_
  refine x_getr C flX0_11 rfl (by have h_ := hD.1; omega) hD.fld.1 (show ax_R G a 0 = some (a + 1) from hD.fld.2.2 (0, 1) (by decide)) (dk ddX0_goBoth 12 rfl) ?_
  refine x_iload_n C (dk ddX0_goBoth 13 rfl) rfl ?_
  refine x_iald_n C hD.maps.1 hD.maps.2.1 hD.maps.2.2 (by omega) (by decide) (dk ddX0_goBoth 14 rfl) ?_
  rw [show (I (a + 1) j) = nI (mp j) from (by repeat (first | exact ax_u_at _ _ _ _ | exact (hmp j (by omega)).1 | rw [ax_u_ne (by omega)] | unfold ax_ldI | unfold ax_woI | unfold ax_rxI | rw [hI_ _ (by omega)]))]
  refine x_aload_n C (dk ddX0_goBoth 15 rfl) rfl ?_
  refine x_getr C flX0_29 rfl (by have h_ := hD.1; omega) hD.fld.1 (show ax_R G a 4 = some (a + 117) from hD.fld.2.2 (4, 117) (by decide)) (dk ddX0_goBoth 16 rfl) ?_
  refine x_aload C (dk ddX0_goBoth 17 rfl) rfl ?_
  refine x_callV C (ci := 7) (As := [.int (nI (mp j)), .ref (a + 117), .ref r]) (k_X7_mapRow l D T o (d - 1) G I (ax_apt I (s + 6) (9 * (mp i)) (a + 116) (a + 117) L 3) s (mp j) (a + 117) r 6 6 hs (hmp j (by omega)).2 ⟨hD.middle.1, hD.middle.2.1, hD.middle.2.2⟩ (by decide) (by decide) ⟨hr.1, hr.2.1, hr.2.2⟩ (by decide) (by decide) (by omega)) mlX0_115 rfl rfl (by have h_ := hs.1; omega) (show ax_K G s = 8 + 7 from (hs.2 0 _ rfl).1) ⟨by show d - 1 + 1 ≤ d; omega, by show 40 * (d - 1 + 1) ≤ 40 * d; omega⟩ ⟨Nat.le_refl _, Nat.le_refl _⟩ rfl (Nat.le_of_ble_eq_true rfl) (dk ddX0_goBoth 18 rfl) ?_
  rintro v_ G_ I_ L_ ⟨rfl, rfl, rfl, rfl⟩
  exact x_vret C rfl ⟨rfl, rfl, rfl, rfl⟩ rfl rfl (dk ddX0_goBoth 19 rfl)
/-- are two Lattices alike? -/
def ax_ias (L : ax_L) (a w b v : Nat) : Bool := decide (v = w ∧ ∀ i, i < w → ∀ j, j < w → i ≤ j → L (a + 2 + i) j = L (b + 2 + i) j)
theorem k_X2_isAsD (l : Launch) (D : va_G) (T : Nat → ClassId) (o d : Nat) (G : ax_G) (I : ax_I) (L : ax_L) (a w b v : Nat) (ha : ax_Lat G a) (hw : I a 2 = nI w) (hw6 : w ≤ 6) (hb : ax_Lat G b) (hv : I b 2 = nI v) (hv6 : v ≤ 6) : ax_Con l D T o yX2_isAs cX2_isAs 4 (some .boolean) d 0 0 [.ref a, .ref b] G I L (ax_pure G I L (.int (ax_b (ax_ias L a w b v)))) := k_X2_isAs l D T o d G I L a w b v ha hw hw6 hb hv hv6
def ax_rxI (I : ax_I) (a : Nat) (fr : Nat → Nat) (tg : Nat → Nat) (gn : Nat → Nat) (i : Nat) (j : Nat) : ax_I := ax_woI (ax_ldI (ax_woI (ax_ldI I (a + 2) (gn (fr i)) (gn (tg i))) (a + 2) (gn (fr i)) (gn (tg i))) (a + 59) (gn (fr j)) (gn (tg j))) (a + 59) (gn (fr j)) (gn (tg j))
def ax_rxL (I : ax_I) (L : ax_L) (a : Nat) (s : Nat) (mp : Nat → Nat) (fr : Nat → Nat) (tg : Nat → Nat) (gn : Nat → Nat) (gc : Nat → Nat) (i : Nat) (j : Nat) : ax_L := ax_woL (ax_ldI (ax_woI (ax_ldI I (a + 2) (gn (fr i)) (gn (tg i))) (a + 2) (gn (fr i)) (gn (tg i))) (a + 59) (gn (fr j)) (gn (tg j))) (ax_ldL (ax_woI (ax_ldI I (a + 2) (gn (fr i)) (gn (tg i))) (a + 2) (gn (fr i)) (gn (tg i))) (ax_woL (ax_ldI I (a + 2) (gn (fr i)) (gn (tg i))) (ax_ldL I L (a + 2) s (mp i) (fr i) (tg i) (gn (fr i)) (gc (fr i)) (gn (tg i)) (gc (tg i))) (a + 2) s (mp i) (gn (fr i)) (gn (tg i))) (a + 59) s (mp j) (fr j) (tg j) (gn (fr j)) (gc (fr j)) (gn (tg j)) (gc (tg j))) (a + 59) s (mp j) (gn (fr j)) (gn (tg j))
def ax_rxv (I : ax_I) (L : ax_L) (a : Nat) (s : Nat) (mp : Nat → Nat) (fr : Nat → Nat) (tg : Nat → Nat) (gn : Nat → Nat) (gc : Nat → Nat) (i : Nat) (j : Nat) : Bool := ax_ias (ax_woL (ax_ldI (ax_woI (ax_ldI I (a + 2) (gn (fr i)) (gn (tg i))) (a + 2) (gn (fr i)) (gn (tg i))) (a + 59) (gn (fr j)) (gn (tg j))) (ax_ldL (ax_woI (ax_ldI I (a + 2) (gn (fr i)) (gn (tg i))) (a + 2) (gn (fr i)) (gn (tg i))) (ax_woL (ax_ldI I (a + 2) (gn (fr i)) (gn (tg i))) (ax_ldL I L (a + 2) s (mp i) (fr i) (tg i) (gn (fr i)) (gc (fr i)) (gn (tg i)) (gc (tg i))) (a + 2) s (mp i) (gn (fr i)) (gn (tg i))) (a + 59) s (mp j) (fr j) (tg j) (gn (fr j)) (gc (fr j)) (gn (tg j)) (gc (tg j))) (a + 59) s (mp j) (gn (fr j)) (gn (tg j))) (a + 2 + 19) (gn (tg i)) (a + 59 + 28) (gn (fr j))
set_option maxRecDepth 20000 in
/-- rowIsExact(i, j) -/
theorem k_X0_rowIsExact (l : Launch) (D : va_G) (T : Nat → ClassId) (o d : Nat) (G : ax_G) (I : ax_I) (L : ax_L) (a s : Nat) (mp fr tg gn gc : Nat → Nat) (i j : Nat) (hD : ax_Dg G a) (hs : ax_Sta G s) (has : a + 120 ≤ s ∨ s + 14 ≤ a) (hmp : ∀ j, j < 7 → I (a + 1) j = nI (mp j) ∧ mp j < 8) (hfr : ∀ j, j < 7 → I (s + 4) (mp j) = nI (fr j) ∧ fr j < 6) (htg : ∀ j, j < 7 → I (s + 5) (mp j) = nI (tg j) ∧ tg j < 6) (hgn : ∀ g, g < 6 → I (s + 1) g = nI (gn g) ∧ gn g ≤ 3) (hgc : ∀ g, g < 6 → I (s + 2) g = nI (gc g) ∧ gc g ≤ 4) (hi : i < 7) (hj : j < 7) (hd : 5 ≤ d) : ax_Con l D T o yX0_rowIsExact cX0_rowIsExact 4 (some .boolean) d 0 0 [.ref a, .ref s, .int (nI i), .int (nI j)] G I L (fun zz G' I' L' => zz = some (.int (ax_b (ax_rxv I L a s mp fr tg gn gc i j))) ∧ G = G' ∧ (ax_rxI I a fr tg gn i j) = I' ∧ (ax_rxL I L a s mp fr tg gn gc i j) = L') := by
  refine ax_enter (by decide +kernel) (Nat.le_of_ble_eq_true rfl) ?_
  intro p_ e_ s_ m_ args_ below_ meth_ c_ C _
  refine x_lvs (lv' := [(0, .ref a), (1, .ref s), (2, .int (nI i)), (3, .int (nI j))]) rfl ?_
  refine x_aload_n C (dk ddX0_rowIsExact 0 rfl) rfl ?_
  refine x_getr C flX0_18 rfl (by have h_ := hD.1; omega) hD.fld.1 (show ax_R G a 1 = some (a + 2) from hD.fld.2.2 (1, 2) (by decide)) (dk ddX0_rowIsExact 1 rfl) ?_
  refine x_aload_n C (dk ddX0_rowIsExact 2 rfl) rfl ?_
  refine x_aload_n C (dk ddX0_rowIsExact 3 rfl) rfl ?_
  refine x_getr C flX0_11 rfl (by have h_ := hD.1; omega) hD.fld.1 (show ax_R G a 0 = some (a + 1) from hD.fld.2.2 (0, 1) (by decide)) (dk ddX0_rowIsExact 4 rfl) ?_
  refine x_iload_n C (dk ddX0_rowIsExact 5 rfl) rfl ?_
  refine x_iald_n C hD.maps.1 hD.maps.2.1 hD.maps.2.2 (by omega) (by decide) (dk ddX0_rowIsExact 6 rfl) ?_
  rw [show (I (a + 1) i) = nI (mp i) from (by repeat (first | exact ax_u_at _ _ _ _ | exact (hmp i (by omega)).1 | rw [ax_u_ne (by omega)] | unfold ax_ldI | unfold ax_woI | unfold ax_rxI | rw [hI_ _ (by omega)]))]
  refine x_callV C (ci := 3) (As := [.ref s, .int (nI (mp i))]) (k_X3_load l D T o (d - 1) G I L (a + 2) s (mp i) (fr i) (tg i) (gn (fr i)) (gc (fr i)) (gn (tg i)) (gc (tg i)) hD.work hs (by omega) (hmp i (by omega)).2 (by repeat (first | exact ax_u_at _ _ _ _ | exact (hfr i (by omega)).1 | rw [ax_u_ne (by omega)] | unfold ax_ldI | unfold ax_woI | unfold ax_rxI | rw [hI_ _ (by omega)])) (hfr i (by omega)).2 (by repeat (first | exact ax_u_at _ _ _ _ | exact (htg i (by omega)).1 | rw [ax_u_ne (by omega)] | unfold ax_ldI | unfold ax_woI | unfold ax_rxI | rw [hI_ _ (by omega)])) (htg i (by omega)).2 (by repeat (first | exact ax_u_at _ _ _ _ | exact (hgn (fr i) (hfr i (by omega)).2).1 | rw [ax_u_ne (by omega)] | unfold ax_ldI | unfold ax_woI | unfold ax_rxI | rw [hI_ _ (by omega)])) (hgn (fr i) (hfr i (by omega)).2).2 (by repeat (first | exact ax_u_at _ _ _ _ | exact (hgc (fr i) (hfr i (by omega)).2).1 | rw [ax_u_ne (by omega)] | unfold ax_ldI | unfold ax_woI | unfold ax_rxI | rw [hI_ _ (by omega)])) (hgc (fr i) (hfr i (by omega)).2).2 (by repeat (first | exact ax_u_at _ _ _ _ | exact (hgn (tg i) (htg i (by omega)).2).1 | rw [ax_u_ne (by omega)] | unfold ax_ldI | unfold ax_woI | unfold ax_rxI | rw [hI_ _ (by omega)])) (hgn (tg i) (htg i (by omega)).2).2 (by repeat (first | exact ax_u_at _ _ _ _ | exact (hgc (tg i) (htg i (by omega)).2).1 | rw [ax_u_ne (by omega)] | unfold ax_ldI | unfold ax_woI | unfold ax_rxI | rw [hI_ _ (by omega)])) (hgc (tg i) (htg i (by omega)).2).2 (by omega)) mlX0_55 rfl rfl (by have h_ := hD.work.1; omega) hD.work.fld.1 ⟨by show d - 1 + 1 ≤ d; omega, by show 40 * (d - 1 + 1) ≤ 40 * d; omega⟩ ⟨Nat.le_refl _, Nat.le_refl _⟩ rfl (Nat.le_of_ble_eq_true rfl) (dk ddX0_rowIsExact 7 rfl) ?_
  rintro v_ G_ I_ L_ ⟨rfl, rfl, rfl, rfl⟩
  refine x_pop C (dk ddX0_rowIsExact 8 rfl) rfl ?_
  refine x_aload_n C (dk ddX0_rowIsExact 9 rfl) rfl ?_
  refine x_getr C flX0_18 rfl (by have h_ := hD.1; omega) hD.fld.1 (show ax_R G a 1 = some (a + 2) from hD.fld.2.2 (1, 2) (by decide)) (dk ddX0_rowIsExact 10 rfl) ?_
  refine x_aload_n C (dk ddX0_rowIsExact 11 rfl) rfl ?_
  refine x_aload_n C (dk ddX0_rowIsExact 12 rfl) rfl ?_
  refine x_getr C flX0_11 rfl (by have h_ := hD.1; omega) hD.fld.1 (show ax_R G a 0 = some (a + 1) from hD.fld.2.2 (0, 1) (by decide)) (dk ddX0_rowIsExact 13 rfl) ?_
  refine x_iload_n C (dk ddX0_rowIsExact 14 rfl) rfl ?_
  refine x_iald_n C hD.maps.1 hD.maps.2.1 hD.maps.2.2 (by omega) (by decide) (dk ddX0_rowIsExact 15 rfl) ?_
  rw [show ((ax_ldI I (a + 2) (gn (fr i)) (gn (tg i))) (a + 1) i) = nI (mp i) from (by repeat (first | exact ax_u_at _ _ _ _ | exact (hmp i (by omega)).1 | rw [ax_u_ne (by omega)] | unfold ax_ldI | unfold ax_woI | unfold ax_rxI | rw [hI_ _ (by omega)]))]
  refine x_callV C (ci := 3) (As := [.ref s, .int (nI (mp i))]) (k_X3_workOut l D T o (d - 1) G (ax_ldI I (a + 2) (gn (fr i)) (gn (tg i))) (ax_ldL I L (a + 2) s (mp i) (fr i) (tg i) (gn (fr i)) (gc (fr i)) (gn (tg i)) (gc (tg i))) (a + 2) s (mp i) (gn (fr i)) (gn (tg i)) hD.work hs (by omega) (hmp i (by omega)).2 (by repeat (first | exact ax_u_at _ _ _ _ | rw [ax_u_ne (by omega)] | unfold ax_ldI | unfold ax_woI | unfold ax_rxI | rw [hI_ _ (by omega)])) (hgn (fr i) (hfr i (by omega)).2).2 (by repeat (first | exact ax_u_at _ _ _ _ | rw [ax_u_ne (by omega)] | unfold ax_ldI | unfold ax_woI | unfold ax_rxI | rw [hI_ _ (by omega)])) (hgn (tg i) (htg i (by omega)).2).2 (by omega)) mlX0_74 rfl rfl (by have h_ := hD.work.1; omega) hD.work.fld.1 ⟨by show d - 1 + 1 ≤ d; omega, by show 40 * (d - 1 + 1) ≤ 40 * d; omega⟩ ⟨Nat.le_refl _, Nat.le_refl _⟩ rfl (Nat.le_of_ble_eq_true rfl) (dk ddX0_rowIsExact 16 rfl) ?_
  rintro v_ G_ I_ L_ ⟨rfl, rfl, rfl, rfl⟩
  refine x_aload_n C (dk ddX0_rowIsExact 17 rfl) rfl ?_
  refine x_getr C flX0_22 rfl (by have h_ := hD.1; omega) hD.fld.1 (show ax_R G a 2 = some (a + 59) from hD.fld.2.2 (2, 59) (by decide)) (dk ddX0_rowIsExact 18 rfl) ?_
  refine x_aload_n C (dk ddX0_rowIsExact 19 rfl) rfl ?_
  refine x_aload_n C (dk ddX0_rowIsExact 20 rfl) rfl ?_
  refine x_getr C flX0_11 rfl (by have h_ := hD.1; omega) hD.fld.1 (show ax_R G a 0 = some (a + 1) from hD.fld.2.2 (0, 1) (by decide)) (dk ddX0_rowIsExact 21 rfl) ?_
  refine x_iload_n C (dk ddX0_rowIsExact 22 rfl) rfl ?_
  refine x_iald_n C hD.maps.1 hD.maps.2.1 hD.maps.2.2 (by omega) (by decide) (dk ddX0_rowIsExact 23 rfl) ?_
  rw [show ((ax_woI (ax_ldI I (a + 2) (gn (fr i)) (gn (tg i))) (a + 2) (gn (fr i)) (gn (tg i))) (a + 1) j) = nI (mp j) from (by repeat (first | exact ax_u_at _ _ _ _ | exact (hmp j (by omega)).1 | rw [ax_u_ne (by omega)] | unfold ax_ldI | unfold ax_woI | unfold ax_rxI | rw [hI_ _ (by omega)]))]
  refine x_callV C (ci := 3) (As := [.ref s, .int (nI (mp j))]) (k_X3_load l D T o (d - 1) G (ax_woI (ax_ldI I (a + 2) (gn (fr i)) (gn (tg i))) (a + 2) (gn (fr i)) (gn (tg i))) (ax_woL (ax_ldI I (a + 2) (gn (fr i)) (gn (tg i))) (ax_ldL I L (a + 2) s (mp i) (fr i) (tg i) (gn (fr i)) (gc (fr i)) (gn (tg i)) (gc (tg i))) (a + 2) s (mp i) (gn (fr i)) (gn (tg i))) (a + 59) s (mp j) (fr j) (tg j) (gn (fr j)) (gc (fr j)) (gn (tg j)) (gc (tg j)) hD.nextWork hs (by omega) (hmp j (by omega)).2 (by repeat (first | exact ax_u_at _ _ _ _ | exact (hfr j (by omega)).1 | rw [ax_u_ne (by omega)] | unfold ax_ldI | unfold ax_woI | unfold ax_rxI | rw [hI_ _ (by omega)])) (hfr j (by omega)).2 (by repeat (first | exact ax_u_at _ _ _ _ | exact (htg j (by omega)).1 | rw [ax_u_ne (by omega)] | unfold ax_ldI | unfold ax_woI | unfold ax_rxI | rw [hI_ _ (by omega)])) (htg j (by omega)).2 (by repeat (first | exact ax_u_at _ _ _ _ | exact (hgn (fr j) (hfr j (by omega)).2).1 | rw [ax_u_ne (by omega)] | unfold ax_ldI | unfold ax_woI | unfold ax_rxI | rw [hI_ _ (by omega)])) (hgn (fr j) (hfr j (by omega)).2).2 (by repeat (first | exact ax_u_at _ _ _ _ | exact (hgc (fr j) (hfr j (by omega)).2).1 | rw [ax_u_ne (by omega)] | unfold ax_ldI | unfold ax_woI | unfold ax_rxI | rw [hI_ _ (by omega)])) (hgc (fr j) (hfr j (by omega)).2).2 (by repeat (first | exact ax_u_at _ _ _ _ | exact (hgn (tg j) (htg j (by omega)).2).1 | rw [ax_u_ne (by omega)] | unfold ax_ldI | unfold ax_woI | unfold ax_rxI | rw [hI_ _ (by omega)])) (hgn (tg j) (htg j (by omega)).2).2 (by repeat (first | exact ax_u_at _ _ _ _ | exact (hgc (tg j) (htg j (by omega)).2).1 | rw [ax_u_ne (by omega)] | unfold ax_ldI | unfold ax_woI | unfold ax_rxI | rw [hI_ _ (by omega)])) (hgc (tg j) (htg j (by omega)).2).2 (by omega)) mlX0_55 rfl rfl (by have h_ := hD.nextWork.1; omega) hD.nextWork.fld.1 ⟨by show d - 1 + 1 ≤ d; omega, by show 40 * (d - 1 + 1) ≤ 40 * d; omega⟩ ⟨Nat.le_refl _, Nat.le_refl _⟩ rfl (Nat.le_of_ble_eq_true rfl) (dk ddX0_rowIsExact 24 rfl) ?_
  rintro v_ G_ I_ L_ ⟨rfl, rfl, rfl, rfl⟩
  refine x_pop C (dk ddX0_rowIsExact 25 rfl) rfl ?_
  refine x_aload_n C (dk ddX0_rowIsExact 26 rfl) rfl ?_
  refine x_getr C flX0_22 rfl (by have h_ := hD.1; omega) hD.fld.1 (show ax_R G a 2 = some (a + 59) from hD.fld.2.2 (2, 59) (by decide)) (dk ddX0_rowIsExact 27 rfl) ?_
  refine x_aload_n C (dk ddX0_rowIsExact 28 rfl) rfl ?_
  refine x_aload_n C (dk ddX0_rowIsExact 29 rfl) rfl ?_
  refine x_getr C flX0_11 rfl (by have h_ := hD.1; omega) hD.fld.1 (show ax_R G a 0 = some (a + 1) from hD.fld.2.2 (0, 1) (by decide)) (dk ddX0_rowIsExact 30 rfl) ?_
  refine x_iload_n C (dk ddX0_rowIsExact 31 rfl) rfl ?_
  refine x_iald_n C hD.maps.1 hD.maps.2.1 hD.maps.2.2 (by omega) (by decide) (dk ddX0_rowIsExact 32 rfl) ?_
  rw [show ((ax_ldI (ax_woI (ax_ldI I (a + 2) (gn (fr i)) (gn (tg i))) (a + 2) (gn (fr i)) (gn (tg i))) (a + 59) (gn (fr j)) (gn (tg j))) (a + 1) j) = nI (mp j) from (by repeat (first | exact ax_u_at _ _ _ _ | exact (hmp j (by omega)).1 | rw [ax_u_ne (by omega)] | unfold ax_ldI | unfold ax_woI | unfold ax_rxI | rw [hI_ _ (by omega)]))]
  refine x_callV C (ci := 3) (As := [.ref s, .int (nI (mp j))]) (k_X3_workOut l D T o (d - 1) G (ax_ldI (ax_woI (ax_ldI I (a + 2) (gn (fr i)) (gn (tg i))) (a + 2) (gn (fr i)) (gn (tg i))) (a + 59) (gn (fr j)) (gn (tg j))) (ax_ldL (ax_woI (ax_ldI I (a + 2) (gn (fr i)) (gn (tg i))) (a + 2) (gn (fr i)) (gn (tg i))) (ax_woL (ax_ldI I (a + 2) (gn (fr i)) (gn (tg i))) (ax_ldL I L (a + 2) s (mp i) (fr i) (tg i) (gn (fr i)) (gc (fr i)) (gn (tg i)) (gc (tg i))) (a + 2) s (mp i) (gn (fr i)) (gn (tg i))) (a + 59) s (mp j) (fr j) (tg j) (gn (fr j)) (gc (fr j)) (gn (tg j)) (gc (tg j))) (a + 59) s (mp j) (gn (fr j)) (gn (tg j)) hD.nextWork hs (by omega) (hmp j (by omega)).2 (by repeat (first | exact ax_u_at _ _ _ _ | rw [ax_u_ne (by omega)] | unfold ax_ldI | unfold ax_woI | unfold ax_rxI | rw [hI_ _ (by omega)])) (hgn (fr j) (hfr j (by omega)).2).2 (by repeat (first | exact ax_u_at _ _ _ _ | rw [ax_u_ne (by omega)] | unfold ax_ldI | unfold ax_woI | unfold ax_rxI | rw [hI_ _ (by omega)])) (hgn (tg j) (htg j (by omega)).2).2 (by omega)) mlX0_74 rfl rfl (by have h_ := hD.nextWork.1; omega) hD.nextWork.fld.1 ⟨by show d - 1 + 1 ≤ d; omega, by show 40 * (d - 1 + 1) ≤ 40 * d; omega⟩ ⟨Nat.le_refl _, Nat.le_refl _⟩ rfl (Nat.le_of_ble_eq_true rfl) (dk ddX0_rowIsExact 33 rfl) ?_
  rintro v_ G_ I_ L_ ⟨rfl, rfl, rfl, rfl⟩
  refine x_aload_n C (dk ddX0_rowIsExact 34 rfl) rfl ?_
  refine x_getr C flX0_18 rfl (by have h_ := hD.1; omega) hD.fld.1 (show ax_R G a 1 = some (a + 2) from hD.fld.2.2 (1, 2) (by decide)) (dk ddX0_rowIsExact 35 rfl) ?_
  refine x_getr C flX0_78 rfl (by have h_ := hD.work.1; omega) hD.work.fld.1 (show ax_R G (a + 2) 2 = some (a + 2 + 19) from hD.work.fld.2.2 (2, 19) (by decide)) (dk ddX0_rowIsExact 36 rfl) ?_
  refine x_aload_n C (dk ddX0_rowIsExact 37 rfl) rfl ?_
  refine x_getr C flX0_22 rfl (by have h_ := hD.1; omega) hD.fld.1 (show ax_R G a 2 = some (a + 59) from hD.fld.2.2 (2, 59) (by decide)) (dk ddX0_rowIsExact 38 rfl) ?_
  refine x_getr C flX0_82 rfl (by have h_ := hD.nextWork.1; omega) hD.nextWork.fld.1 (show ax_R G (a + 59) 3 = some (a + 59 + 28) from hD.nextWork.fld.2.2 (3, 28) (by decide)) (dk ddX0_rowIsExact 39 rfl) ?_
  refine x_callV C (ci := 2) (As := [.ref (a + 59 + 28)]) (k_X2_isAsD l D T o (d - 1) G (ax_woI (ax_ldI (ax_woI (ax_ldI I (a + 2) (gn (fr i)) (gn (tg i))) (a + 2) (gn (fr i)) (gn (tg i))) (a + 59) (gn (fr j)) (gn (tg j))) (a + 59) (gn (fr j)) (gn (tg j))) (ax_woL (ax_ldI (ax_woI (ax_ldI I (a + 2) (gn (fr i)) (gn (tg i))) (a + 2) (gn (fr i)) (gn (tg i))) (a + 59) (gn (fr j)) (gn (tg j))) (ax_ldL (ax_woI (ax_ldI I (a + 2) (gn (fr i)) (gn (tg i))) (a + 2) (gn (fr i)) (gn (tg i))) (ax_woL (ax_ldI I (a + 2) (gn (fr i)) (gn (tg i))) (ax_ldL I L (a + 2) s (mp i) (fr i) (tg i) (gn (fr i)) (gc (fr i)) (gn (tg i)) (gc (tg i))) (a + 2) s (mp i) (gn (fr i)) (gn (tg i))) (a + 59) s (mp j) (fr j) (tg j) (gn (fr j)) (gc (fr j)) (gn (tg j)) (gc (tg j))) (a + 59) s (mp j) (gn (fr j)) (gn (tg j))) (a + 2 + 19) (gn (tg i)) (a + 59 + 28) (gn (fr j)) hD.work.reach (by repeat (first | exact ax_u_at _ _ _ _ | rw [ax_u_ne (by omega)] | unfold ax_ldI | unfold ax_woI | unfold ax_rxI | rw [hI_ _ (by omega)])) (Nat.le_trans (hgn (tg i) (htg i (by omega)).2).2 (by decide)) hD.nextWork.kernel (by refine Eq.trans (b := nI ((gn (tg j)) + (gn (fr j)) - (gn (tg j)))) ?_ (congrArg nI (Nat.add_sub_cancel_left ..)); exact (by repeat (first | exact ax_u_at _ _ _ _ | rw [ax_u_ne (by omega)] | unfold ax_ldI | unfold ax_woI | unfold ax_rxI | rw [hI_ _ (by omega)]))) (Nat.le_trans (hgn (fr j) (hfr j (by omega)).2).2 (by decide))) mlX0_85 rfl rfl (by have h_ := hD.work.reach.1; omega) hD.work.reach.2.1 ⟨by show d - 1 + 1 ≤ d; omega, by show 40 * (d - 1 + 1) ≤ 40 * d; omega⟩ ⟨Nat.le_refl _, Nat.le_refl _⟩ rfl (Nat.le_of_ble_eq_true rfl) (dk ddX0_rowIsExact 40 rfl) ?_
  rintro v_ G_ I_ L_ ⟨rfl, rfl, rfl, rfl⟩
  exact x_zret C rfl (ax_b_nar _) ⟨rfl, rfl, rfl, rfl⟩ rfl rfl (dk ddX0_rowIsExact 41 rfl)
/-- one way less the other -/
def ax_wac (a : Nat) : Nat → ax_L → ax_L
  | 0, J => J
  | n + 1, J => ax_u (ax_wac a n J) (a + 118) n (((ax_wac a n J) (a + 118) n) - ((ax_wac a n J) (a + 119) n))
/-- do both ways agree, from generator k on -/
def ax_wak (I : ax_I) (a : Nat) (s : Nat) (mp : Nat → Nat) (tg : Nat → Nat) (gn : Nat → Nat) (i : Nat) (j : Nat) (p : Nat) (q : Nat) : Nat → Nat → ax_L → (Bool × ax_L)
  | 0, k, PH33_0 => (true, PH33_0)
  | n + 1, k, PH33_0 => if (ax_sz ((ax_rfo (a + 2 + 10) (a + 118) (gn (tg j)) 0 (gn (tg j)) (ax_wac a 3 (ax_gbo I (ax_gbo I (ax_u (ax_fl1 (a + 116) 0 6 PH33_0) (a + 116) k 1) a s mp i j (a + 118)) a s mp p q (a + 119)))) (a + 118)) (gn (tg j))) = true then ax_wak I a s mp tg gn i j p q n (k + 1) (ax_rfo (a + 2 + 10) (a + 118) (gn (tg j)) 0 (gn (tg j)) (ax_wac a 3 (ax_gbo I (ax_gbo I (ax_u (ax_fl1 (a + 116) 0 6 PH33_0) (a + 116) k 1) a s mp i j (a + 118)) a s mp p q (a + 119)))) else (false, ax_rfo (a + 2 + 10) (a + 118) (gn (tg j)) 0 (gn (tg j)) (ax_wac a 3 (ax_gbo I (ax_gbo I (ax_u (ax_fl1 (a + 116) 0 6 PH33_0) (a + 116) k 1) a s mp i j (a + 118)) a s mp p q (a + 119))))
def ax_waL (I : ax_I) (L : ax_L) (a : Nat) (s : Nat) (mp : Nat → Nat) (fr : Nat → Nat) (tg : Nat → Nat) (gn : Nat → Nat) (gc : Nat → Nat) (i : Nat) (j : Nat) (p : Nat) (q : Nat) : ax_L := (ax_wak (ax_u I (a + 2 + 10) 2 (nI (gn (tg j)))) a s mp tg gn i j p q (gn (fr i)) 0 (ax_nth I s (a + 2 + 10) (tg j) (gn (tg j)) (gc (tg j)) L)).2
def ax_wav (I : ax_I) (L : ax_L) (a : Nat) (s : Nat) (mp : Nat → Nat) (fr : Nat → Nat) (tg : Nat → Nat) (gn : Nat → Nat) (gc : Nat → Nat) (i : Nat) (j : Nat) (p : Nat) (q : Nat) : Bool := (ax_wak (ax_u I (a + 2 + 10) 2 (nI (gn (tg j)))) a s mp tg gn i j p q (gn (fr i)) 0 (ax_nth I s (a + 2 + 10) (tg j) (gn (tg j)) (gc (tg j)) L)).1
set_option maxRecDepth 20000 in
/-- waysAgree -/
theorem k_X0_waysAgree (l : Launch) (D : va_G) (T : Nat → ClassId) (o d : Nat) (G : ax_G) (I : ax_I) (L : ax_L) (a s : Nat) (mp fr tg gn gc : Nat → Nat) (i j p q : Nat) (hD : ax_Dg G a) (hs : ax_Sta G s) (has : a + 120 ≤ s ∨ s + 14 ≤ a) (hmp : ∀ j, j < 7 → I (a + 1) j = nI (mp j) ∧ mp j < 8) (hfr : ∀ j, j < 7 → I (s + 4) (mp j) = nI (fr j) ∧ fr j < 6) (htg : ∀ j, j < 7 → I (s + 5) (mp j) = nI (tg j) ∧ tg j < 6) (hgn : ∀ g, g < 6 → I (s + 1) g = nI (gn g) ∧ gn g ≤ 3) (hgc : ∀ g, g < 6 → I (s + 2) g = nI (gc g) ∧ gc g ≤ 4) (hi : i < 7) (hj : j < 7) (hp : p < 7) (hq : q < 7) (hd : 4 ≤ d) : ax_Con l D T o yX0_waysAgree cX0_waysAgree 9 (some .boolean) d 0 0 [.ref a, .ref s, .int (nI i), .int (nI j), .int (nI p), .int (nI q)] G I L (fun zz G' I' L' => zz = some (.int (ax_b (ax_wav I L a s mp fr tg gn gc i j p q))) ∧ G = G' ∧ (ax_u I (a + 2 + 10) 2 (nI (gn (tg j)))) = I' ∧ (ax_waL I L a s mp fr tg gn gc i j p q) = L') := by
  refine ax_enter (by decide +kernel) (Nat.le_of_ble_eq_true rfl) ?_
  intro p_ e_ s_ m_ args_ below_ meth_ c_ C _
  refine x_lvs (lv' := [(0, .ref a), (1, .ref s), (2, .int (nI i)), (3, .int (nI j)), (4, .int (nI p)), (5, .int (nI q))]) rfl ?_
  have hb_ := (hgn (fr i) (hfr i (by omega)).2).2
  refine x_aload_n C (dk ddX0_waysAgree 0 rfl) rfl ?_
  refine x_aload_n C (dk ddX0_waysAgree 1 rfl) rfl ?_
  refine x_aload_n C (dk ddX0_waysAgree 2 rfl) rfl ?_
  refine x_iload_n C (dk ddX0_waysAgree 3 rfl) rfl ?_
  refine x_callV C (ci := 0) (As := [.ref s, .int (nI j)]) (k_X0_to l D T o (d - 1) G I L a s mp tg j hD hs (fun j hj => ⟨(by repeat (first | exact ax_u_at _ _ _ _ | exact (hmp j hj).1 | rw [ax_u_ne (by omega)] | unfold ax_ldI | unfold ax_woI | unfold ax_rxI | rw [hI_ _ (by omega)])), (hmp j hj).2⟩) (fun j hj => ⟨(by repeat (first | exact ax_u_at _ _ _ _ | exact (htg j hj).1 | rw [ax_u_ne (by omega)] | unfold ax_ldI | unfold ax_woI | unfold ax_rxI | rw [hI_ _ (by omega)])), (htg j hj).2⟩) (by omega)) mlX0_44 rfl rfl (by have h_ := hD.1; omega) hD.fld.1 ⟨by show d - 1 + 1 ≤ d; omega, by show 40 * (d - 1 + 1) ≤ 40 * d; omega⟩ ⟨Nat.le_refl _, Nat.le_refl _⟩ rfl (Nat.le_of_ble_eq_true rfl) (dk ddX0_waysAgree 4 rfl) ?_
  rintro v_ G_ I_ L_ ⟨rfl, rfl, rfl, rfl⟩
  refine x_aload_n C (dk ddX0_waysAgree 5 rfl) rfl ?_
  refine x_getr C flX0_18 rfl (by have h_ := hD.1; omega) hD.fld.1 (show ax_R G a 1 = some (a + 2) from hD.fld.2.2 (1, 2) (by decide)) (dk ddX0_waysAgree 6 rfl) ?_
  refine x_getr C flX0_91 rfl (by have h_ := hD.work.1; omega) hD.work.fld.1 (show ax_R G (a + 2) 1 = some (a + 2 + 10) from hD.work.fld.2.2 (1, 10) (by decide)) (dk ddX0_waysAgree 7 rfl) ?_
  refine x_callV C (ci := 7) (As := [.int (nI (tg j)), .ref (a + 2 + 10)]) (k_X7_fill l D T o (d - 1) G I L s (tg j) (a + 2 + 10) (gn (tg j)) (gc (tg j)) hs hD.work.target (by omega) (htg j (by omega)).2 (by repeat (first | exact ax_u_at _ _ _ _ | exact (hgn (tg j) (htg j (by omega)).2).1 | rw [ax_u_ne (by omega)] | unfold ax_ldI | unfold ax_woI | unfold ax_rxI | rw [hI_ _ (by omega)])) (hgn (tg j) (htg j (by omega)).2).2 (by repeat (first | exact ax_u_at _ _ _ _ | exact (hgc (tg j) (htg j (by omega)).2).1 | rw [ax_u_ne (by omega)] | unfold ax_ldI | unfold ax_woI | unfold ax_rxI | rw [hI_ _ (by omega)])) (hgc (tg j) (htg j (by omega)).2).2 (by omega)) mlX0_94 rfl rfl (by have h_ := hs.1; omega) (show ax_K G s = 8 + 7 from (hs.2 0 _ rfl).1) ⟨by show d - 1 + 1 ≤ d; omega, by show 40 * (d - 1 + 1) ≤ 40 * d; omega⟩ ⟨Nat.le_refl _, Nat.le_refl _⟩ rfl (Nat.le_of_ble_eq_true rfl) (dk ddX0_waysAgree 8 rfl) ?_
  rintro v_ G_ I_ L_ ⟨rfl, rfl, rfl, rfl⟩
  refine x_aload_n C (dk ddX0_waysAgree 9 rfl) rfl ?_
  refine x_getr C flX0_98 rfl (by have h_ := hs.1; omega) (show ax_K G s = 8 + 7 from (hs.2 0 _ rfl).1) (show ax_R G s 0 = some (s + 1) from (hs.2 0 _ rfl).2.2 (0, 1) (by decide)) (dk ddX0_waysAgree 10 rfl) ?_
  refine x_aload_n C (dk ddX0_waysAgree 11 rfl) rfl ?_
  refine x_aload_n C (dk ddX0_waysAgree 12 rfl) rfl ?_
  refine x_iload_n C (dk ddX0_waysAgree 13 rfl) rfl ?_
  refine x_callV C (ci := 0) (As := [.ref s, .int (nI i)]) (k_X0_from l D T o (d - 1) G (ax_u I (a + 2 + 10) 2 (nI (gn (tg j)))) (ax_nth I s (a + 2 + 10) (tg j) (gn (tg j)) (gc (tg j)) L) a s mp fr i hD hs (fun j hj => ⟨(by repeat (first | exact ax_u_at _ _ _ _ | exact (hmp j hj).1 | rw [ax_u_ne (by omega)] | unfold ax_ldI | unfold ax_woI | unfold ax_rxI | rw [hI_ _ (by omega)])), (hmp j hj).2⟩) (fun j hj => ⟨(by repeat (first | exact ax_u_at _ _ _ _ | exact (hfr j hj).1 | rw [ax_u_ne (by omega)] | unfold ax_ldI | unfold ax_woI | unfold ax_rxI | rw [hI_ _ (by omega)])), (hfr j hj).2⟩) (by omega)) mlX0_48 rfl rfl (by have h_ := hD.1; omega) hD.fld.1 ⟨by show d - 1 + 1 ≤ d; omega, by show 40 * (d - 1 + 1) ≤ 40 * d; omega⟩ ⟨Nat.le_refl _, Nat.le_refl _⟩ rfl (Nat.le_of_ble_eq_true rfl) (dk ddX0_waysAgree 14 rfl) ?_
  rintro v_ G_ I_ L_ ⟨rfl, rfl, rfl, rfl⟩
  refine x_iald_n C (by have h_ := hs.1; omega) (show ax_K G (s + 1) = 0 from (hs.2 1 _ rfl).1) (show ax_N G (s + 1) = 6 from (hs.2 1 _ rfl).2.1) (by have h_ := (hfr i (by omega)).2; omega) (by decide) (dk ddX0_waysAgree 15 rfl) ?_
  rw [show ((ax_u I (a + 2 + 10) 2 (nI (gn (tg j)))) (s + 1) (fr i)) = nI (gn (fr i)) from (by repeat (first | exact ax_u_at _ _ _ _ | exact (hgn (fr i) (hfr i (by omega)).2).1 | rw [ax_u_ne (by omega)] | unfold ax_ldI | unfold ax_woI | unfold ax_rxI | rw [hI_ _ (by omega)]))]
  refine x_istore C (lv' := [(6, .int (nI (gn (fr i)))), (0, .ref a), (1, .ref s), (2, .int (nI i)), (3, .int (nI j)), (4, .int (nI p)), (5, .int (nI q))]) (dk ddX0_waysAgree 16 rfl) (by decide) rfl ?_
  refine x_iconst C (v := nI 0) (dk ddX0_waysAgree 17 rfl) (by decide) ?_
  refine x_istore C (lv' := [(7, .int (nI 0)), (6, .int (nI (gn (fr i)))), (0, .ref a), (1, .ref s), (2, .int (nI i)), (3, .int (nI j)), (4, .int (nI p)), (5, .int (nI q))]) (dk ddX0_waysAgree 18 rfl) (by decide) rfl ?_
  have hl33 : ∀ (n_33 k : Nat) (C0_33 : ax_L), k + n_33 = gn (fr i) → ax_wak (ax_u I (a + 2 + 10) 2 (nI (gn (tg j)))) a s mp tg gn i j p q n_33 k C0_33 = ax_wak (ax_u I (a + 2 + 10) 2 (nI (gn (tg j)))) a s mp tg gn i j p q (gn (fr i)) 0 (ax_nth I s (a + 2 + 10) (tg j) (gn (tg j)) (gc (tg j)) L) → ax_XM p_ l e_ s_ m_ args_ below_ meth_ c_ 9 D T o d 0 0 G (fun zz G' I' L' => zz = some (.int (ax_b (ax_wav I L a s mp fr tg gn gc i j p q))) ∧ G = G' ∧ (ax_u I (a + 2 + 10) 2 (nI (gn (tg j)))) = I' ∧ (ax_waL I L a s mp fr tg gn gc i j p q) = L') G (ax_u I (a + 2 + 10) 2 (nI (gn (tg j)))) C0_33 33 [(7, .int (nI k)), (6, .int (nI (gn (fr i)))), (0, .ref a), (1, .ref s), (2, .int (nI i)), (3, .int (nI j)), (4, .int (nI p)), (5, .int (nI q))] [] := by
    intro n_33
    induction n_33 with
    | zero =>
      intro k C0_33 hk_33 hz_33
      rw [show k = gn (fr i) by omega] at hz_33 ⊢
      refine x_iload C (dk ddX0_waysAgree 19 rfl) rfl ?_
      refine x_iload C (dk ddX0_waysAgree 20 rfl) rfl ?_
      refine x_icmp_ge_n C (tgt := 137) (dk ddX0_waysAgree 21 rfl) (by decide) (by omega) (by omega) (fun h37 => ?_) (fun h37 => ?_)
      · refine x_iconst C (v := nI 1) (dk ddX0_waysAgree 74 rfl) (by decide) ?_
        have e_ : ax_wak (ax_u I (a + 2 + 10) 2 (nI (gn (tg j)))) a s mp tg gn i j p q 0 (gn (fr i)) C0_33 = (true, C0_33) := rfl
        exact x_zret C rfl rfl ⟨(by unfold ax_wav; rw [← hz_33, e_] <;> rfl), rfl, rfl, (by unfold ax_waL; rw [← hz_33, e_] <;> rfl)⟩ rfl rfl (dk ddX0_waysAgree 75 rfl)
      · exfalso
        omega
    | succ n_33 ih_33 =>
      intro k C0_33 hk_33 hz_33
      refine x_iload C (dk ddX0_waysAgree 19 rfl) rfl ?_
      refine x_iload C (dk ddX0_waysAgree 20 rfl) rfl ?_
      refine x_icmp_ge_n C (tgt := 137) (dk ddX0_waysAgree 21 rfl) (by decide) (by omega) (by omega) (fun h37 => ?_) (fun h37 => ?_)
      · exfalso
        omega
      · refine x_aload_n C (dk ddX0_waysAgree 22 rfl) rfl ?_
        refine x_getr C flX0_25 rfl (by have h_ := hD.1; omega) hD.fld.1 (show ax_R G a 3 = some (a + 116) from hD.fld.2.2 (3, 116) (by decide)) (dk ddX0_waysAgree 23 rfl) ?_
        refine x_lconst C (v := 0) (dk ddX0_waysAgree 24 rfl) (by decide) ?_
        refine x_callS C (As := [.ref (a + 116), .long 0]) (k_J7_fill_d0a16 l D T o (d - 1) G (ax_u I (a + 2 + 10) 2 (nI (gn (tg j)))) C0_33 (a + 116) 6 0 hD.start.1 hD.start.2.1 hD.start.2.2 (by decide) (by omega)) mlX0_101 ⟨by show d - 1 + 1 ≤ d; omega, by show 40 * (d - 1 + 1) ≤ 40 * d; omega⟩ ⟨Nat.le_refl _, Nat.le_refl _⟩ rfl (Nat.le_of_ble_eq_true rfl) (dk ddX0_waysAgree 25 rfl) ?_
        rintro v_ G_ I_ L_ ⟨rfl, rfl, rfl, rfl⟩
        refine x_aload_n C (dk ddX0_waysAgree 26 rfl) rfl ?_
        refine x_getr C flX0_25 rfl (by have h_ := hD.1; omega) hD.fld.1 (show ax_R G a 3 = some (a + 116) from hD.fld.2.2 (3, 116) (by decide)) (dk ddX0_waysAgree 27 rfl) ?_
        refine x_iload C (dk ddX0_waysAgree 28 rfl) rfl ?_
        refine x_lconst C (v := 1) (dk ddX0_waysAgree 29 rfl) (by decide) ?_
        refine x_last_n C hD.start.1 hD.start.2.1 hD.start.2.2 (by omega) (by decide) (dk ddX0_waysAgree 30 rfl) ?_
        refine x_aload_n C (dk ddX0_waysAgree 31 rfl) rfl ?_
        refine x_aload_n C (dk ddX0_waysAgree 32 rfl) rfl ?_
        refine x_iload_n C (dk ddX0_waysAgree 33 rfl) rfl ?_
        refine x_iload_n C (dk ddX0_waysAgree 34 rfl) rfl ?_
        refine x_aload_n C (dk ddX0_waysAgree 35 rfl) rfl ?_
        refine x_getr C flX0_32 rfl (by have h_ := hD.1; omega) hD.fld.1 (show ax_R G a 5 = some (a + 118) from hD.fld.2.2 (5, 118) (by decide)) (dk ddX0_waysAgree 36 rfl) ?_
        refine x_callV C (ci := 0) (As := [.ref s, .int (nI i), .int (nI j), .ref (a + 118)]) (k_X0_goBoth l D T o (d - 1) G (ax_u I (a + 2 + 10) 2 (nI (gn (tg j)))) (ax_u (ax_fl1 (a + 116) 0 6 C0_33) (a + 116) k 1) a s mp fr tg gn gc i j (a + 118) hD hs has (fun j hj => ⟨(by repeat (first | exact ax_u_at _ _ _ _ | exact (hmp j hj).1 | rw [ax_u_ne (by omega)] | unfold ax_ldI | unfold ax_woI | unfold ax_rxI | rw [hI_ _ (by omega)])), (hmp j hj).2⟩) (fun j hj => ⟨(by repeat (first | exact ax_u_at _ _ _ _ | exact (hfr j hj).1 | rw [ax_u_ne (by omega)] | unfold ax_ldI | unfold ax_woI | unfold ax_rxI | rw [hI_ _ (by omega)])), (hfr j hj).2⟩) (fun j hj => ⟨(by repeat (first | exact ax_u_at _ _ _ _ | exact (htg j hj).1 | rw [ax_u_ne (by omega)] | unfold ax_ldI | unfold ax_woI | unfold ax_rxI | rw [hI_ _ (by omega)])), (htg j hj).2⟩) (fun j hj => ⟨(by repeat (first | exact ax_u_at _ _ _ _ | exact (hgn j hj).1 | rw [ax_u_ne (by omega)] | unfold ax_ldI | unfold ax_woI | unfold ax_rxI | rw [hI_ _ (by omega)])), (hgn j hj).2⟩) (fun j hj => ⟨(by repeat (first | exact ax_u_at _ _ _ _ | exact (hgc j hj).1 | rw [ax_u_ne (by omega)] | unfold ax_ldI | unfold ax_woI | unfold ax_rxI | rw [hI_ _ (by omega)])), (hgc j hj).2⟩) (by omega) (by omega) ⟨hD.end_.1, hD.end_.2.1, hD.end_.2.2⟩ (by omega)) mlX0_107 rfl rfl (by have h_ := hD.1; omega) hD.fld.1 ⟨by show d - 1 + 1 ≤ d; omega, by show 40 * (d - 1 + 1) ≤ 40 * d; omega⟩ ⟨Nat.le_refl _, Nat.le_refl _⟩ rfl (Nat.le_of_ble_eq_true rfl) (dk ddX0_waysAgree 37 rfl) ?_
        rintro v_ G_ I_ L_ ⟨rfl, rfl, rfl, rfl⟩
        refine x_aload_n C (dk ddX0_waysAgree 38 rfl) rfl ?_
        refine x_aload_n C (dk ddX0_waysAgree 39 rfl) rfl ?_
        refine x_iload C (dk ddX0_waysAgree 40 rfl) rfl ?_
        refine x_iload C (dk ddX0_waysAgree 41 rfl) rfl ?_
        refine x_aload_n C (dk ddX0_waysAgree 42 rfl) rfl ?_
        refine x_getr C flX0_35 rfl (by have h_ := hD.1; omega) hD.fld.1 (show ax_R G a 6 = some (a + 119) from hD.fld.2.2 (6, 119) (by decide)) (dk ddX0_waysAgree 43 rfl) ?_
        refine x_callV C (ci := 0) (As := [.ref s, .int (nI p), .int (nI q), .ref (a + 119)]) (k_X0_goBoth l D T o (d - 1) G (ax_u I (a + 2 + 10) 2 (nI (gn (tg j)))) (ax_gbo (ax_u I (a + 2 + 10) 2 (nI (gn (tg j)))) (ax_u (ax_fl1 (a + 116) 0 6 C0_33) (a + 116) k 1) a s mp i j (a + 118)) a s mp fr tg gn gc p q (a + 119) hD hs has (fun j hj => ⟨(by repeat (first | exact ax_u_at _ _ _ _ | exact (hmp j hj).1 | rw [ax_u_ne (by omega)] | unfold ax_ldI | unfold ax_woI | unfold ax_rxI | rw [hI_ _ (by omega)])), (hmp j hj).2⟩) (fun j hj => ⟨(by repeat (first | exact ax_u_at _ _ _ _ | exact (hfr j hj).1 | rw [ax_u_ne (by omega)] | unfold ax_ldI | unfold ax_woI | unfold ax_rxI | rw [hI_ _ (by omega)])), (hfr j hj).2⟩) (fun j hj => ⟨(by repeat (first | exact ax_u_at _ _ _ _ | exact (htg j hj).1 | rw [ax_u_ne (by omega)] | unfold ax_ldI | unfold ax_woI | unfold ax_rxI | rw [hI_ _ (by omega)])), (htg j hj).2⟩) (fun j hj => ⟨(by repeat (first | exact ax_u_at _ _ _ _ | exact (hgn j hj).1 | rw [ax_u_ne (by omega)] | unfold ax_ldI | unfold ax_woI | unfold ax_rxI | rw [hI_ _ (by omega)])), (hgn j hj).2⟩) (fun j hj => ⟨(by repeat (first | exact ax_u_at _ _ _ _ | exact (hgc j hj).1 | rw [ax_u_ne (by omega)] | unfold ax_ldI | unfold ax_woI | unfold ax_rxI | rw [hI_ _ (by omega)])), (hgc j hj).2⟩) (by omega) (by omega) ⟨hD.otherEnd.1, hD.otherEnd.2.1, hD.otherEnd.2.2⟩ (by omega)) mlX0_107 rfl rfl (by have h_ := hD.1; omega) hD.fld.1 ⟨by show d - 1 + 1 ≤ d; omega, by show 40 * (d - 1 + 1) ≤ 40 * d; omega⟩ ⟨Nat.le_refl _, Nat.le_refl _⟩ rfl (Nat.le_of_ble_eq_true rfl) (dk ddX0_waysAgree 44 rfl) ?_
        rintro v_ G_ I_ L_ ⟨rfl, rfl, rfl, rfl⟩
        refine x_iconst C (v := nI 0) (dk ddX0_waysAgree 45 rfl) (by decide) ?_
        refine x_istore C (lv' := [(8, .int (nI 0)), (7, .int (nI k)), (6, .int (nI (gn (fr i)))), (0, .ref a), (1, .ref s), (2, .int (nI i)), (3, .int (nI j)), (4, .int (nI p)), (5, .int (nI q))]) (dk ddX0_waysAgree 46 rfl) (by decide) rfl ?_
        have hl32 : ∀ (n_32 c : Nat), c + n_32 = 3 → ax_XM p_ l e_ s_ m_ args_ below_ meth_ c_ 9 D T o d 0 0 G (fun zz G' I' L' => zz = some (.int (ax_b (ax_wav I L a s mp fr tg gn gc i j p q))) ∧ G = G' ∧ (ax_u I (a + 2 + 10) 2 (nI (gn (tg j)))) = I' ∧ (ax_waL I L a s mp fr tg gn gc i j p q) = L') G (ax_u I (a + 2 + 10) 2 (nI (gn (tg j)))) (ax_wac a c (ax_gbo (ax_u I (a + 2 + 10) 2 (nI (gn (tg j)))) (ax_gbo (ax_u I (a + 2 + 10) 2 (nI (gn (tg j)))) (ax_u (ax_fl1 (a + 116) 0 6 C0_33) (a + 116) k 1) a s mp i j (a + 118)) a s mp p q (a + 119))) 83 [(8, .int (nI c)), (7, .int (nI k)), (6, .int (nI (gn (fr i)))), (0, .ref a), (1, .ref s), (2, .int (nI i)), (3, .int (nI j)), (4, .int (nI p)), (5, .int (nI q))] [] := by
          intro n_32
          induction n_32 with
          | zero =>
            intro c hk_32
            rw [show c = 3 by omega]
            refine x_iload C (dk ddX0_waysAgree 47 rfl) rfl ?_
            refine x_iconst C (v := nI 3) (dk ddX0_waysAgree 48 rfl) (by decide) ?_
            refine x_icmp_ge_n C (tgt := 112) (dk ddX0_waysAgree 49 rfl) (by decide) (by decide) (by decide) (fun _ => ?_) (fun h_ => absurd h_ (by decide))
            refine x_aload_n C (dk ddX0_waysAgree 63 rfl) rfl ?_
            refine x_getr C flX0_18 rfl (by have h_ := hD.1; omega) hD.fld.1 (show ax_R G a 1 = some (a + 2) from hD.fld.2.2 (1, 2) (by decide)) (dk ddX0_waysAgree 64 rfl) ?_
            refine x_getr C flX0_91 rfl (by have h_ := hD.work.1; omega) hD.work.fld.1 (show ax_R G (a + 2) 1 = some (a + 2 + 10) from hD.work.fld.2.2 (1, 10) (by decide)) (dk ddX0_waysAgree 65 rfl) ?_
            refine x_aload_n C (dk ddX0_waysAgree 66 rfl) rfl ?_
            refine x_getr C flX0_32 rfl (by have h_ := hD.1; omega) hD.fld.1 (show ax_R G a 5 = some (a + 118) from hD.fld.2.2 (5, 118) (by decide)) (dk ddX0_waysAgree 67 rfl) ?_
            refine x_callV C (ci := 2) (As := [.ref (a + 118)]) (k_X2_swallows l D T o (d - 1) G (ax_u I (a + 2 + 10) 2 (nI (gn (tg j)))) (ax_wac a 3 (ax_gbo (ax_u I (a + 2 + 10) 2 (nI (gn (tg j)))) (ax_gbo (ax_u I (a + 2 + 10) 2 (nI (gn (tg j)))) (ax_u (ax_fl1 (a + 116) 0 6 C0_33) (a + 116) k 1) a s mp i j (a + 118)) a s mp p q (a + 119))) (a + 2 + 10) (a + 118) (gn (tg j)) hD.work.target (by repeat (first | exact ax_u_at _ _ _ _ | rw [ax_u_ne (by omega)] | unfold ax_ldI | unfold ax_woI | unfold ax_rxI | rw [hI_ _ (by omega)])) (Nat.le_trans (hgn (tg j) (htg j (by omega)).2).2 (by decide)) ⟨hD.end_.1, hD.end_.2.1, hD.end_.2.2⟩ (by omega)) mlX0_111 rfl rfl (by have h_ := hD.work.target.1; omega) hD.work.target.2.1 ⟨by show d - 1 + 1 ≤ d; omega, by show 40 * (d - 1 + 1) ≤ 40 * d; omega⟩ ⟨Nat.le_refl _, Nat.le_refl _⟩ rfl (Nat.le_of_ble_eq_true rfl) (dk ddX0_waysAgree 68 rfl) ?_
            rintro v_ G_ I_ L_ ⟨rfl, rfl, rfl, rfl⟩
            refine x_if_ne_b C (tgt := 131) (dk ddX0_waysAgree 69 rfl) (by decide) (fun h126 => ?_) (fun h126 => ?_)
            · refine x_iinc C (v := nI (k + 1)) (lv' := [(7, .int (nI (k + 1))), (8, .int (nI 3)), (6, .int (nI (gn (fr i)))), (0, .ref a), (1, .ref s), (2, .int (nI i)), (3, .int (nI j)), (4, .int (nI p)), (5, .int (nI q))]) (dk ddX0_waysAgree 72 rfl) rfl (nI_add k 1) (by decide) rfl ?_
              refine x_goto C (tgt := 33) (dk ddX0_waysAgree 73 rfl) (by decide) ?_
              have e_ : ax_wak (ax_u I (a + 2 + 10) 2 (nI (gn (tg j)))) a s mp tg gn i j p q (n_33 + 1) k C0_33 = ax_wak (ax_u I (a + 2 + 10) 2 (nI (gn (tg j)))) a s mp tg gn i j p q n_33 (k + 1) (ax_rfo (a + 2 + 10) (a + 118) (gn (tg j)) 0 (gn (tg j)) (ax_wac a 3 (ax_gbo (ax_u I (a + 2 + 10) 2 (nI (gn (tg j)))) (ax_gbo (ax_u I (a + 2 + 10) 2 (nI (gn (tg j)))) (ax_u (ax_fl1 (a + 116) 0 6 C0_33) (a + 116) k 1) a s mp i j (a + 118)) a s mp p q (a + 119)))) := (by show (if _ then _ else _) = _; rw [if_pos h126])
              refine x_sub [0, 2, 3, 4, 5, 6, 7, 8] (lv' := [(7, .int (nI (k + 1))), (6, .int (nI (gn (fr i)))), (0, .ref a), (1, .ref s), (2, .int (nI i)), (3, .int (nI j)), (4, .int (nI p)), (5, .int (nI q))]) rfl ?_
              exact ih_33 (k + 1) (ax_rfo (a + 2 + 10) (a + 118) (gn (tg j)) 0 (gn (tg j)) (ax_wac a 3 (ax_gbo (ax_u I (a + 2 + 10) 2 (nI (gn (tg j)))) (ax_gbo (ax_u I (a + 2 + 10) 2 (nI (gn (tg j)))) (ax_u (ax_fl1 (a + 116) 0 6 C0_33) (a + 116) k 1) a s mp i j (a + 118)) a s mp p q (a + 119)))) (by omega) (e_.symm.trans hz_33)
            · refine x_iconst C (v := nI 0) (dk ddX0_waysAgree 70 rfl) (by decide) ?_
              have e_ : ax_wak (ax_u I (a + 2 + 10) 2 (nI (gn (tg j)))) a s mp tg gn i j p q (n_33 + 1) k C0_33 = (false, ax_rfo (a + 2 + 10) (a + 118) (gn (tg j)) 0 (gn (tg j)) (ax_wac a 3 (ax_gbo (ax_u I (a + 2 + 10) 2 (nI (gn (tg j)))) (ax_gbo (ax_u I (a + 2 + 10) 2 (nI (gn (tg j)))) (ax_u (ax_fl1 (a + 116) 0 6 C0_33) (a + 116) k 1) a s mp i j (a + 118)) a s mp p q (a + 119)))) := (by show (if _ then _ else _) = _; rw [if_neg (Bool.eq_false_iff.mp h126)])
              exact x_zret C rfl rfl ⟨(by unfold ax_wav; rw [← hz_33, e_] <;> rfl), rfl, rfl, (by unfold ax_waL; rw [← hz_33, e_] <;> rfl)⟩ rfl rfl (dk ddX0_waysAgree 71 rfl)
          | succ n_32 ih_32 =>
            intro c hk_32
            refine x_iload C (dk ddX0_waysAgree 47 rfl) rfl ?_
            refine x_iconst C (v := nI 3) (dk ddX0_waysAgree 48 rfl) (by decide) ?_
            refine x_icmp_ge_n C (tgt := 112) (dk ddX0_waysAgree 49 rfl) (by decide) (by omega) (by decide) (fun h86 => ?_) (fun h86 => ?_)
            · exfalso
              omega
            · refine x_aload_n C (dk ddX0_waysAgree 50 rfl) rfl ?_
              refine x_getr C flX0_32 rfl (by have h_ := hD.1; omega) hD.fld.1 (show ax_R G a 5 = some (a + 118) from hD.fld.2.2 (5, 118) (by decide)) (dk ddX0_waysAgree 51 rfl) ?_
              refine x_iload C (dk ddX0_waysAgree 52 rfl) rfl ?_
              refine x_dup2 C (dk ddX0_waysAgree 53 rfl) rfl rfl ?_
              refine x_lald_n C hD.end_.1 hD.end_.2.1 hD.end_.2.2 (by omega) (by decide) (dk ddX0_waysAgree 54 rfl) ?_
              refine x_aload_n C (dk ddX0_waysAgree 55 rfl) rfl ?_
              refine x_getr C flX0_35 rfl (by have h_ := hD.1; omega) hD.fld.1 (show ax_R G a 6 = some (a + 119) from hD.fld.2.2 (6, 119) (by decide)) (dk ddX0_waysAgree 56 rfl) ?_
              refine x_iload C (dk ddX0_waysAgree 57 rfl) rfl ?_
              refine x_lald_n C hD.otherEnd.1 hD.otherEnd.2.1 hD.otherEnd.2.2 (by omega) (by decide) (dk ddX0_waysAgree 58 rfl) ?_
              refine x_lsub C (dk ddX0_waysAgree 59 rfl) ?_
              refine x_last_n C hD.end_.1 hD.end_.2.1 hD.end_.2.2 (by omega) (by decide) (dk ddX0_waysAgree 60 rfl) ?_
              refine x_iinc C (v := nI (c + 1)) (lv' := [(8, .int (nI (c + 1))), (7, .int (nI k)), (6, .int (nI (gn (fr i)))), (0, .ref a), (1, .ref s), (2, .int (nI i)), (3, .int (nI j)), (4, .int (nI p)), (5, .int (nI q))]) (dk ddX0_waysAgree 61 rfl) rfl (nI_add c 1) (by decide) rfl ?_
              refine x_goto C (tgt := 83) (dk ddX0_waysAgree 62 rfl) (by decide) ?_
              have e_ : ax_wac a (c + 1) (ax_gbo (ax_u I (a + 2 + 10) 2 (nI (gn (tg j)))) (ax_gbo (ax_u I (a + 2 + 10) 2 (nI (gn (tg j)))) (ax_u (ax_fl1 (a + 116) 0 6 C0_33) (a + 116) k 1) a s mp i j (a + 118)) a s mp p q (a + 119)) = ax_u (ax_wac a c (ax_gbo (ax_u I (a + 2 + 10) 2 (nI (gn (tg j)))) (ax_gbo (ax_u I (a + 2 + 10) 2 (nI (gn (tg j)))) (ax_u (ax_fl1 (a + 116) 0 6 C0_33) (a + 116) k 1) a s mp i j (a + 118)) a s mp p q (a + 119))) (a + 118) c (((ax_wac a c (ax_gbo (ax_u I (a + 2 + 10) 2 (nI (gn (tg j)))) (ax_gbo (ax_u I (a + 2 + 10) 2 (nI (gn (tg j)))) (ax_u (ax_fl1 (a + 116) 0 6 C0_33) (a + 116) k 1) a s mp i j (a + 118)) a s mp p q (a + 119))) (a + 118) c) - ((ax_wac a c (ax_gbo (ax_u I (a + 2 + 10) 2 (nI (gn (tg j)))) (ax_gbo (ax_u I (a + 2 + 10) 2 (nI (gn (tg j)))) (ax_u (ax_fl1 (a + 116) 0 6 C0_33) (a + 116) k 1) a s mp i j (a + 118)) a s mp p q (a + 119))) (a + 119) c)) := rfl
              refine x_sub [0, 1, 2, 3, 4, 5, 6, 7, 8] (lv' := [(8, .int (nI (c + 1))), (7, .int (nI k)), (6, .int (nI (gn (fr i)))), (0, .ref a), (1, .ref s), (2, .int (nI i)), (3, .int (nI j)), (4, .int (nI p)), (5, .int (nI q))]) rfl ?_
              have h_ := ih_32 (c + 1) (by omega)
              rw [e_] at h_
              exact h_
        refine x_sub [0, 1, 2, 3, 4, 5, 6, 7, 8] (lv' := [(8, .int (nI 0)), (7, .int (nI k)), (6, .int (nI (gn (fr i)))), (0, .ref a), (1, .ref s), (2, .int (nI i)), (3, .int (nI j)), (4, .int (nI p)), (5, .int (nI q))]) rfl ?_
        exact hl32 3 0 (by omega)
  refine x_sub [0, 1, 2, 3, 4, 5, 6, 7] (lv' := [(7, .int (nI 0)), (6, .int (nI (gn (fr i)))), (0, .ref a), (1, .ref s), (2, .int (nI i)), (3, .int (nI j)), (4, .int (nI p)), (5, .int (nI q))]) rfl ?_
  exact hl33 (gn (fr i)) 0 (ax_nth I s (a + 2 + 10) (tg j) (gn (tg j)) (gc (tg j)) L) (by omega) rfl
