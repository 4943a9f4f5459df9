/-! ===== the class: what lies where; small methods ===== -/
theorem ax_Cls.rings {G : ax_G} {a : Nat} (h : ax_Cls G a) : ax_Rg G (a + 615) (a + 616) := ⟨by have := h.1; omega, (h.2 615 (12, 0, [(0, 616)]) (by decide +kernel)).1, by have e := (h.2 615 (12, 0, [(0, 616)]) (by decide +kernel)).2.2 (0, 616) (by decide); exact e, by have := h.1; omega, (h.2 616 (2, 9, []) (by decide +kernel)).1, (h.2 616 (2, 9, []) (by decide +kernel)).2.1⟩
theorem ax_Cls.otherRings {G : ax_G} {a : Nat} (h : ax_Cls G a) : ax_Rg G (a + 617) (a + 618) := ⟨by have := h.1; omega, (h.2 617 (12, 0, [(0, 618)]) (by decide +kernel)).1, by have e := (h.2 617 (12, 0, [(0, 618)]) (by decide +kernel)).2.2 (0, 618) (by decide); exact e, by have := h.1; omega, (h.2 618 (2, 9, []) (by decide +kernel)).1, (h.2 618 (2, 9, []) (by decide +kernel)).2.1⟩
theorem ax_Cls.pairRings {G : ax_G} {a : Nat} (h : ax_Cls G a) : ax_Rg G (a + 619) (a + 620) := ⟨by have := h.1; omega, (h.2 619 (12, 0, [(0, 620)]) (by decide +kernel)).1, by have e := (h.2 619 (12, 0, [(0, 620)]) (by decide +kernel)).2.2 (0, 620) (by decide); exact e, by have := h.1; omega, (h.2 620 (2, 9, []) (by decide +kernel)).1, (h.2 620 (2, 9, []) (by decide +kernel)).2.1⟩
theorem ax_Cls.row {G : ax_G} {a : Nat} (h : ax_Cls G a) : ax_La G (a + 621) 6 := ⟨by have := h.1; omega, (h.2 621 (2, 6, []) (by decide +kernel)).1, (h.2 621 (2, 6, []) (by decide +kernel)).2.1⟩
theorem ax_Cls.otherRow {G : ax_G} {a : Nat} (h : ax_Cls G a) : ax_La G (a + 622) 6 := ⟨by have := h.1; omega, (h.2 622 (2, 6, []) (by decide +kernel)).1, (h.2 622 (2, 6, []) (by decide +kernel)).2.1⟩
theorem ax_Cls.work {G : ax_G} {a : Nat} (h : ax_Cls G a) : ax_Mw G (a + 483) := by
  have k2 : ((List.range 57).all fun j => decide (tX10[483 + j]? = (ax_shf 483 tX3)[j]?)) = true := by decide +kernel
  have hl : tX3.length = 57 := by decide +kernel
  exact ⟨by have := h.1; omega, h.2.part fun j hj => of_decide_eq_true (List.all_eq_true.mp k2 j (List.mem_range.mpr (by omega)))⟩
theorem ax_Cls.nextWork {G : ax_G} {a : Nat} (h : ax_Cls G a) : ax_Mw G (a + 540) := by
  have k2 : ((List.range 57).all fun j => decide (tX10[540 + j]? = (ax_shf 540 tX3)[j]?)) = true := by decide +kernel
  have hl : tX3.length = 57 := by decide +kernel
  exact ⟨by have := h.1; omega, h.2.part fun j hj => of_decide_eq_true (List.all_eq_true.mp k2 j (List.mem_range.mpr (by omega)))⟩
theorem ax_Cls.dia {G : ax_G} {a : Nat} (h : ax_Cls G a) : ax_Dg G (a + 361) := by
  have k2 : ((List.range 120).all fun j => decide (tX10[361 + j]? = (ax_shf 361 tX0)[j]?)) = true := by decide +kernel
  have hl : tX0.length = 120 := by decide +kernel
  exact ⟨by have := h.1; omega, h.2.part fun j hj => of_decide_eq_true (List.all_eq_true.mp k2 j (List.mem_range.mpr (by omega)))⟩
theorem ax_Cls.sheet {G : ax_G} {a k : Nat} (h : ax_Cls G a) (hk : k < 4) : ax_R G (a + 481) k = some (a + (623 + 2 * k)) ∧ ax_Sh G (a + (623 + 2 * k)) (a + (624 + 2 * k)) := by
  rcases (show k = 0 ∨ k = 1 ∨ k = 2 ∨ k = 3 by omega) with rfl | rfl | rfl | rfl
  · exact ⟨(h.2 481 (5, 4, [(3, 629), (2, 627), (1, 625), (0, 623)]) (by decide +kernel)).2.2 (0, 623) (by decide), by have := h.1; omega, (h.2 623 (13, 0, [(2, 624)]) (by decide +kernel)).1, (h.2 623 (13, 0, [(2, 624)]) (by decide +kernel)).2.2 (2, 624) (by decide), by have := h.1; omega, (h.2 624 (2, 40, []) (by decide +kernel)).1, (h.2 624 (2, 40, []) (by decide +kernel)).2.1⟩
  · exact ⟨(h.2 481 (5, 4, [(3, 629), (2, 627), (1, 625), (0, 623)]) (by decide +kernel)).2.2 (1, 625) (by decide), by have := h.1; omega, (h.2 625 (13, 0, [(2, 626)]) (by decide +kernel)).1, (h.2 625 (13, 0, [(2, 626)]) (by decide +kernel)).2.2 (2, 626) (by decide), by have := h.1; omega, (h.2 626 (2, 40, []) (by decide +kernel)).1, (h.2 626 (2, 40, []) (by decide +kernel)).2.1⟩
  · exact ⟨(h.2 481 (5, 4, [(3, 629), (2, 627), (1, 625), (0, 623)]) (by decide +kernel)).2.2 (2, 627) (by decide), by have := h.1; omega, (h.2 627 (13, 0, [(2, 628)]) (by decide +kernel)).1, (h.2 627 (13, 0, [(2, 628)]) (by decide +kernel)).2.2 (2, 628) (by decide), by have := h.1; omega, (h.2 628 (2, 40, []) (by decide +kernel)).1, (h.2 628 (2, 40, []) (by decide +kernel)).2.1⟩
  · exact ⟨(h.2 481 (5, 4, [(3, 629), (2, 627), (1, 625), (0, 623)]) (by decide +kernel)).2.2 (3, 629) (by decide), by have := h.1; omega, (h.2 629 (13, 0, [(2, 630)]) (by decide +kernel)).1, (h.2 629 (13, 0, [(2, 630)]) (by decide +kernel)).2.2 (2, 630) (by decide), by have := h.1; omega, (h.2 630 (2, 40, []) (by decide +kernel)).1, (h.2 630 (2, 40, []) (by decide +kernel)).2.1⟩
theorem ax_Cls.sheets {G : ax_G} {a : Nat} (h : ax_Cls G a) : a + 481 < ax_top G ∧ ax_K G (a + 481) = 5 ∧ ax_N G (a + 481) = 4 := ⟨by have := h.1; omega, (h.2 481 (5, 4, [(3, 629), (2, 627), (1, 625), (0, 623)]) (by decide +kernel)).1, (h.2 481 (5, 4, [(3, 629), (2, 627), (1, 625), (0, 623)]) (by decide +kernel)).2.1⟩
theorem ax_Cls.shelf {G : ax_G} {a k : Nat} (h : ax_Cls G a) (hk : k < 4) : ax_R G (a + 482) k = some (a + (631 + 2 * k)) ∧ ax_Sf G (a + (631 + 2 * k)) (a + (632 + 2 * k)) := by
  rcases (show k = 0 ∨ k = 1 ∨ k = 2 ∨ k = 3 by omega) with rfl | rfl | rfl | rfl
  · exact ⟨(h.2 482 (6, 4, [(3, 637), (2, 635), (1, 633), (0, 631)]) (by decide +kernel)).2.2 (0, 631) (by decide), by have := h.1; omega, (h.2 631 (14, 0, [(1, 632)]) (by decide +kernel)).1, (h.2 631 (14, 0, [(1, 632)]) (by decide +kernel)).2.2 (1, 632) (by decide), by have := h.1; omega, (h.2 632 (2, 3, []) (by decide +kernel)).1, (h.2 632 (2, 3, []) (by decide +kernel)).2.1⟩
  · exact ⟨(h.2 482 (6, 4, [(3, 637), (2, 635), (1, 633), (0, 631)]) (by decide +kernel)).2.2 (1, 633) (by decide), by have := h.1; omega, (h.2 633 (14, 0, [(1, 634)]) (by decide +kernel)).1, (h.2 633 (14, 0, [(1, 634)]) (by decide +kernel)).2.2 (1, 634) (by decide), by have := h.1; omega, (h.2 634 (2, 3, []) (by decide +kernel)).1, (h.2 634 (2, 3, []) (by decide +kernel)).2.1⟩
  · exact ⟨(h.2 482 (6, 4, [(3, 637), (2, 635), (1, 633), (0, 631)]) (by decide +kernel)).2.2 (2, 635) (by decide), by have := h.1; omega, (h.2 635 (14, 0, [(1, 636)]) (by decide +kernel)).1, (h.2 635 (14, 0, [(1, 636)]) (by decide +kernel)).2.2 (1, 636) (by decide), by have := h.1; omega, (h.2 636 (2, 3, []) (by decide +kernel)).1, (h.2 636 (2, 3, []) (by decide +kernel)).2.1⟩
  · exact ⟨(h.2 482 (6, 4, [(3, 637), (2, 635), (1, 633), (0, 631)]) (by decide +kernel)).2.2 (3, 637) (by decide), by have := h.1; omega, (h.2 637 (14, 0, [(1, 638)]) (by decide +kernel)).1, (h.2 637 (14, 0, [(1, 638)]) (by decide +kernel)).2.2 (1, 638) (by decide), by have := h.1; omega, (h.2 638 (2, 3, []) (by decide +kernel)).1, (h.2 638 (2, 3, []) (by decide +kernel)).2.1⟩
theorem ax_Cls.shelfs {G : ax_G} {a : Nat} (h : ax_Cls G a) : a + 482 < ax_top G ∧ ax_K G (a + 482) = 6 ∧ ax_N G (a + 482) = 4 := ⟨by have := h.1; omega, (h.2 482 (6, 4, [(3, 637), (2, 635), (1, 633), (0, 631)]) (by decide +kernel)).1, (h.2 482 (6, 4, [(3, 637), (2, 635), (1, 633), (0, 631)]) (by decide +kernel)).2.1⟩
def ax_riw (L : ax_L) (a : Nat) : Bool := if (ax_iw (L (a + 621) 0) 1000000000) = true then (if (ax_iw (L (a + 621) 1) 1000000000) = true then (if (ax_iw (L (a + 621) 2) 1000000000) = true then true else false) else false) else false
set_option maxRecDepth 20000 in
/-- rowIsWithin() -/
theorem k_X10_rowIsWithin (l : Launch) (D : va_G) (T : Nat → ClassId) (o d : Nat) (G : ax_G) (I : ax_I) (L : ax_L) (a : Nat) (hC : ax_Cls G a) (hd : 1 ≤ d) : ax_Con l D T o yX10_rowIsWithin cX10_rowIsWithin 1 (some .boolean) d 0 0 [.ref a] G I L (fun zz G' I' L' => zz = some (.int (ax_b (ax_riw L a))) ∧ G = G' ∧ I = I' ∧ L = L') := by
  refine ax_enter (by decide +kernel) (Nat.le_of_ble_eq_true rfl) ?_
  intro p_ e_ s_ m_ args_ below_ meth_ c_ C _
  refine x_lvs (lv' := [(0, .ref a)]) rfl ?_
  refine x_aload_n C (dk ddX10_rowIsWithin 0 rfl) rfl ?_
  refine x_getr C flX10_89 rfl (by have h_ := hC.1; omega) hC.fld.1 (show ax_R G a 15 = some (a + 621) from hC.fld.2.2 (15, 621) (by decide)) (dk ddX10_rowIsWithin 1 rfl) ?_
  refine x_iconst C (v := nI 0) (dk ddX10_rowIsWithin 2 rfl) (by decide) ?_
  refine x_lald_n C hC.row.1 hC.row.2.1 hC.row.2.2 (by decide) (by decide) (dk ddX10_rowIsWithin 3 rfl) ?_
  refine x_ldc2 C klX10_432 (dk ddX10_rowIsWithin 4 rfl) ?_
  refine x_callS C (As := [.long (L (a + 621) 0), .long 1000000000]) (k_X10_isWithin l D T o (d - 1) G I L (L (a + 621) 0) 1000000000) mlX10_385 ⟨by show d - 1 + 1 ≤ d; omega, by show 40 * (d - 1 + 1) ≤ 40 * d; omega⟩ ⟨Nat.le_refl _, Nat.le_refl _⟩ rfl (Nat.le_of_ble_eq_true rfl) (dk ddX10_rowIsWithin 5 rfl) ?_
  rintro v_ G_ I_ L_ ⟨rfl, rfl, rfl, rfl⟩
  refine x_if_eq_b C (tgt := 49) (dk ddX10_rowIsWithin 6 rfl) (by decide) (fun h12 => ?_) (fun h12 => ?_)
  · refine x_iconst C (v := nI 0) (dk ddX10_rowIsWithin 23 rfl) (by decide) ?_
    exact x_zret C rfl rfl ⟨(by unfold ax_riw; rw [if_neg (Bool.eq_false_iff.mp h12)] <;> rfl), rfl, rfl, rfl⟩ rfl rfl (dk ddX10_rowIsWithin 24 rfl)
  · refine x_aload_n C (dk ddX10_rowIsWithin 7 rfl) rfl ?_
    refine x_getr C flX10_89 rfl (by have h_ := hC.1; omega) hC.fld.1 (show ax_R G a 15 = some (a + 621) from hC.fld.2.2 (15, 621) (by decide)) (dk ddX10_rowIsWithin 8 rfl) ?_
    refine x_iconst C (v := nI 1) (dk ddX10_rowIsWithin 9 rfl) (by decide) ?_
    refine x_lald_n C hC.row.1 hC.row.2.1 hC.row.2.2 (by decide) (by decide) (dk ddX10_rowIsWithin 10 rfl) ?_
    refine x_ldc2 C klX10_432 (dk ddX10_rowIsWithin 11 rfl) ?_
    refine x_callS C (As := [.long (L (a + 621) 1), .long 1000000000]) (k_X10_isWithin l D T o (d - 1) G I L (L (a + 621) 1) 1000000000) mlX10_385 ⟨by show d - 1 + 1 ≤ d; omega, by show 40 * (d - 1 + 1) ≤ 40 * d; omega⟩ ⟨Nat.le_refl _, Nat.le_refl _⟩ rfl (Nat.le_of_ble_eq_true rfl) (dk ddX10_rowIsWithin 12 rfl) ?_
    rintro v_ G_ I_ L_ ⟨rfl, rfl, rfl, rfl⟩
    refine x_if_eq_b C (tgt := 49) (dk ddX10_rowIsWithin 13 rfl) (by decide) (fun h27 => ?_) (fun h27 => ?_)
    · refine x_iconst C (v := nI 0) (dk ddX10_rowIsWithin 23 rfl) (by decide) ?_
      exact x_zret C rfl rfl ⟨(by unfold ax_riw; rw [if_pos h12, if_neg (Bool.eq_false_iff.mp h27)] <;> rfl), rfl, rfl, rfl⟩ rfl rfl (dk ddX10_rowIsWithin 24 rfl)
    · refine x_aload_n C (dk ddX10_rowIsWithin 14 rfl) rfl ?_
      refine x_getr C flX10_89 rfl (by have h_ := hC.1; omega) hC.fld.1 (show ax_R G a 15 = some (a + 621) from hC.fld.2.2 (15, 621) (by decide)) (dk ddX10_rowIsWithin 15 rfl) ?_
      refine x_iconst C (v := nI 2) (dk ddX10_rowIsWithin 16 rfl) (by decide) ?_
      refine x_lald_n C hC.row.1 hC.row.2.1 hC.row.2.2 (by decide) (by decide) (dk ddX10_rowIsWithin 17 rfl) ?_
      refine x_ldc2 C klX10_432 (dk ddX10_rowIsWithin 18 rfl) ?_
      refine x_callS C (As := [.long (L (a + 621) 2), .long 1000000000]) (k_X10_isWithin l D T o (d - 1) G I L (L (a + 621) 2) 1000000000) mlX10_385 ⟨by show d - 1 + 1 ≤ d; omega, by show 40 * (d - 1 + 1) ≤ 40 * d; omega⟩ ⟨Nat.le_refl _, Nat.le_refl _⟩ rfl (Nat.le_of_ble_eq_true rfl) (dk ddX10_rowIsWithin 19 rfl) ?_
      rintro v_ G_ I_ L_ ⟨rfl, rfl, rfl, rfl⟩
      refine x_if_eq_b C (tgt := 49) (dk ddX10_rowIsWithin 20 rfl) (by decide) (fun h42 => ?_) (fun h42 => ?_)
      · refine x_iconst C (v := nI 0) (dk ddX10_rowIsWithin 23 rfl) (by decide) ?_
        exact x_zret C rfl rfl ⟨(by unfold ax_riw; rw [if_pos h12, if_pos h27, if_neg (Bool.eq_false_iff.mp h42)] <;> rfl), rfl, rfl, rfl⟩ rfl rfl (dk ddX10_rowIsWithin 24 rfl)
      · refine x_iconst C (v := nI 1) (dk ddX10_rowIsWithin 21 rfl) (by decide) ?_
        refine x_goto C (tgt := 50) (dk ddX10_rowIsWithin 22 rfl) (by decide) ?_
        exact x_zret C rfl rfl ⟨(by unfold ax_riw; rw [if_pos h12, if_pos h27, if_pos h42] <;> rfl), rfl, rfl, rfl⟩ rfl rfl (dk ddX10_rowIsWithin 24 rfl)
def ax_lgI (I : ax_I) (L : ax_L) (a : Nat) (r : Nat) : ax_I := if (ax_riw L a) = true then ax_u (ax_u (ax_u I r 0 (I r 0)) r 2 (-1)) r 3 (nI 0) else I
def ax_lgL (L : ax_L) (a : Nat) (x : Nat) : ax_L := if (ax_riw L a) = true then ax_cp L (a + 621) x 0 0 3 else L
def ax_lgv (L : ax_L) (a : Nat) : Int32 := if (ax_riw L a) = true then nI 1 else (-16)
set_option maxRecDepth 20000 in
/-- layAgain(shelf) -/
theorem k_X10_layAgain (l : Launch) (D : va_G) (T : Nat → ClassId) (o d : Nat) (G : ax_G) (I : ax_I) (L : ax_L) (a r x : Nat) (hC : ax_Cls G a) (hr : ax_Sf G r x) (hd : 2 ≤ d) : ax_Con l D T o yX10_layAgain cX10_layAgain 2 (some .int) d 0 0 [.ref a, .ref r] G I L (fun zz G' I' L' => zz = some (.int (ax_lgv L a)) ∧ G = G' ∧ (ax_lgI I L a r) = I' ∧ (ax_lgL L a x) = L') := by
  refine ax_enter (by decide +kernel) (Nat.le_of_ble_eq_true rfl) ?_
  intro p_ e_ s_ m_ args_ below_ meth_ c_ C _
  refine x_lvs (lv' := [(0, .ref a), (1, .ref r)]) rfl ?_
  refine x_aload_n C (dk ddX10_layAgain 0 rfl) rfl ?_
  refine x_callV C (ci := 10) (As := []) (k_X10_rowIsWithin l D T o (d - 1) G I L a hC (by omega)) mlX10_429 rfl rfl (by have h_ := hC.1; omega) hC.fld.1 ⟨by show d - 1 + 1 ≤ d; omega, by show 40 * (d - 1 + 1) ≤ 40 * d; omega⟩ ⟨Nat.le_refl _, Nat.le_refl _⟩ rfl (Nat.le_of_ble_eq_true rfl) (dk ddX10_layAgain 1 rfl) ?_
  rintro v_ G_ I_ L_ ⟨rfl, rfl, rfl, rfl⟩
  refine x_if_ne_b C (tgt := 10) (dk ddX10_layAgain 2 rfl) (by decide) (fun h4 => ?_) (fun h4 => ?_)
  · refine x_aload_n C (dk ddX10_layAgain 5 rfl) rfl ?_
    refine x_aload_n C (dk ddX10_layAgain 6 rfl) rfl ?_
    refine x_geti C flX10_359 rfl hr.1 hr.2.1 (dk ddX10_layAgain 7 rfl) ?_
    refine x_aload_n C (dk ddX10_layAgain 8 rfl) rfl ?_
    refine x_getr C flX10_89 rfl (by have h_ := hC.1; omega) hC.fld.1 (show ax_R G a 15 = some (a + 621) from hC.fld.2.2 (15, 621) (by decide)) (dk ddX10_layAgain 9 rfl) ?_
    refine x_callV C (ci := 6) (As := [.int (I r 0), .ref (a + 621)]) (k_X6_takeElement l D T o (d - 1) G I L r x (a + 621) 6 (I r 0) hr ⟨hC.row.1, hC.row.2.1, hC.row.2.2⟩ (by decide) (by omega)) mlX10_347 rfl rfl hr.1 hr.2.1 ⟨by show d - 1 + 1 ≤ d; omega, by show 40 * (d - 1 + 1) ≤ 40 * d; omega⟩ ⟨Nat.le_refl _, Nat.le_refl _⟩ rfl (Nat.le_of_ble_eq_true rfl) (dk ddX10_layAgain 10 rfl) ?_
    rintro v_ G_ I_ L_ ⟨rfl, rfl, rfl, rfl⟩
    refine x_iconst C (v := nI 1) (dk ddX10_layAgain 11 rfl) (by decide) ?_
    exact x_iret C rfl ⟨(by unfold ax_lgv; rw [if_pos h4] <;> rfl), rfl, (by unfold ax_lgI; rw [if_pos h4] <;> rfl), (by unfold ax_lgL; rw [if_pos h4] <;> rfl)⟩ rfl rfl (dk ddX10_layAgain 12 rfl)
  · refine x_bipush C (v := (-16)) (dk ddX10_layAgain 3 rfl) (by decide) ?_
    exact x_iret C rfl ⟨(by unfold ax_lgv; rw [if_neg (Bool.eq_false_iff.mp h4)] <;> rfl), rfl, (by unfold ax_lgI; rw [if_neg (Bool.eq_false_iff.mp h4)] <;> rfl), (by unfold ax_lgL; rw [if_neg (Bool.eq_false_iff.mp h4)] <;> rfl)⟩ rfl rfl (dk ddX10_layAgain 4 rfl)
/-- the sum of the first so many -/
def ax_smo (f : Nat → Int32) : Nat → Int32 → Int32
  | 0, J => J
  | n + 1, J => ax_smo f n J + f n
set_option maxRecDepth 20000 in
/-- sumOf(numbers) -/
theorem k_X10_sumOf (l : Launch) (D : va_G) (T : Nat → ClassId) (o d : Nat) (G : ax_G) (I : ax_I) (L : ax_L) (r n : Nat) (ha : r < ax_top G) (hK : ax_K G r = 0) (hN : ax_N G r = n) (hn : n < 2 ^ 31) : ax_Con l D T o yX10_sumOf cX10_sumOf 6 (some .int) d 0 0 [.ref r] G I L (fun zz G' I' L' => zz = some (.int (ax_smo (I r) n (nI 0))) ∧ G = G' ∧ I = I' ∧ L = L') := by
  refine ax_enter (by decide +kernel) (Nat.le_of_ble_eq_true rfl) ?_
  intro p_ e_ s_ m_ args_ below_ meth_ c_ C _
  refine x_lvs (lv' := [(0, .ref r)]) rfl ?_
  refine x_iconst C (v := nI 0) (dk ddX10_sumOf 0 rfl) (by decide) ?_
  refine x_istore_n C (lv' := [(1, .int (nI 0)), (0, .ref r)]) (dk ddX10_sumOf 1 rfl) (by decide) rfl ?_
  refine x_aload_n C (dk ddX10_sumOf 2 rfl) rfl ?_
  refine x_astore_n C (lv' := [(2, .ref r), (1, .int (nI 0)), (0, .ref r)]) (dk ddX10_sumOf 3 rfl) (by decide) rfl ?_
  refine x_aload_n C (dk ddX10_sumOf 4 rfl) rfl ?_
  refine x_alen C (v := nI n) ha hK (by decide) (by rw [hN]) (dk ddX10_sumOf 5 rfl) ?_
  refine x_istore_n C (lv' := [(3, .int (nI n)), (2, .ref r), (1, .int (nI 0)), (0, .ref r)]) (dk ddX10_sumOf 6 rfl) (by decide) rfl ?_
  refine x_iconst C (v := nI 0) (dk ddX10_sumOf 7 rfl) (by decide) ?_
  refine x_istore C (lv' := [(4, .int (nI 0)), (3, .int (nI n)), (2, .ref r), (1, .int (nI 0)), (0, .ref r)]) (dk ddX10_sumOf 8 rfl) (by decide) rfl ?_
  have hl36 : ∀ (n_36 k : Nat), k + n_36 = n → ax_XM p_ l e_ s_ m_ args_ below_ meth_ c_ 6 D T o d 0 0 G (fun zz G' I' L' => zz = some (.int (ax_smo (I r) n (nI 0))) ∧ G = G' ∧ I = I' ∧ L = L') G I L 10 [(4, .int (nI k)), (3, .int (nI n)), (2, .ref r), (1, .int (ax_smo (I r) k (nI 0)))] [] := by
    intro n_36
    induction n_36 with
    | zero =>
      intro k hk_36
      rw [show k = n by omega]
      refine x_iload C (dk ddX10_sumOf 9 rfl) rfl ?_
      refine x_iload_n C (dk ddX10_sumOf 10 rfl) rfl ?_
      refine x_icmp_ge_n C (tgt := 33) (dk ddX10_sumOf 11 rfl) (by decide) (by omega) (by omega) (fun h13 => ?_) (fun h13 => ?_)
      · refine x_iload_n C (dk ddX10_sumOf 22 rfl) rfl ?_
        exact x_iret C rfl ⟨rfl, rfl, rfl, rfl⟩ rfl rfl (dk ddX10_sumOf 23 rfl)
      · exfalso
        omega
    | succ n_36 ih_36 =>
      intro k hk_36
      refine x_iload C (dk ddX10_sumOf 9 rfl) rfl ?_
      refine x_iload_n C (dk ddX10_sumOf 10 rfl) rfl ?_
      refine x_icmp_ge_n C (tgt := 33) (dk ddX10_sumOf 11 rfl) (by decide) (by omega) (by omega) (fun h13 => ?_) (fun h13 => ?_)
      · exfalso
        omega
      · refine x_aload_n C (dk ddX10_sumOf 12 rfl) rfl ?_
        refine x_iload C (dk ddX10_sumOf 13 rfl) rfl ?_
        refine x_iald_n C ha hK hN (by omega) hn (dk ddX10_sumOf 14 rfl) ?_
        refine x_istore C (lv' := [(5, .int (I r k)), (4, .int (nI k)), (3, .int (nI n)), (2, .ref r), (1, .int (ax_smo (I r) k (nI 0)))]) (dk ddX10_sumOf 15 rfl) (by decide) rfl ?_
        refine x_iload_n C (dk ddX10_sumOf 16 rfl) rfl ?_
        refine x_iload C (dk ddX10_sumOf 17 rfl) rfl ?_
        refine x_iadd C (dk ddX10_sumOf 18 rfl) ?_
        refine x_istore_n C (lv' := [(1, .int ((ax_smo (I r) k (nI 0)) + (I r k))), (5, .int (I r k)), (4, .int (nI k)), (3, .int (nI n)), (2, .ref r)]) (dk ddX10_sumOf 19 rfl) (by decide) rfl ?_
        refine x_iinc C (v := nI (k + 1)) (lv' := [(4, .int (nI (k + 1))), (1, .int ((ax_smo (I r) k (nI 0)) + (I r k))), (5, .int (I r k)), (3, .int (nI n)), (2, .ref r)]) (dk ddX10_sumOf 20 rfl) rfl (nI_add k 1) (by decide) rfl ?_
        refine x_goto C (tgt := 10) (dk ddX10_sumOf 21 rfl) (by decide) ?_
        have e_ : ax_smo (I r) (k + 1) (nI 0) = (ax_smo (I r) k (nI 0)) + (I r k) := rfl
        refine x_sub [0, 3, 4, 1] (lv' := [(4, .int (nI (k + 1))), (3, .int (nI n)), (2, .ref r), (1, .int ((ax_smo (I r) k (nI 0)) + (I r k)))]) rfl ?_
        have h_ := ih_36 (k + 1) (by omega)
        rw [e_] at h_
        exact h_
  refine x_sub [0, 1, 2, 3] (lv' := [(4, .int (nI 0)), (3, .int (nI n)), (2, .ref r), (1, .int (nI 0))]) rfl ?_
  exact hl36 n 0 (by omega)
def ax_wrI (I : ax_I) (a : Nat) (g : Nat) (r : Nat) (gn : Nat → Nat) : ax_I := ax_u (ax_u I (a + 597) 2 (nI (gn g))) r 1 (nI (gn g))
def ax_wrL (I : ax_I) (L : ax_L) (a : Nat) (g : Nat) (x : Nat) (gn : Nat → Nat) (gc : Nat → Nat) : ax_L := (ax_ofq (ax_nth I (a + 1) (a + 597) g (gn g) (gc g) L) x (a + 597) (gn g) (gn g) ((ax_nth I (a + 1) (a + 597) g (gn g) (gc g) L), 1)).1
set_option maxRecDepth 20000 in
/-- workOutRings(g, rings) -/
theorem k_X10_workOutRings (l : Launch) (D : va_G) (T : Nat → ClassId) (o d : Nat) (G : ax_G) (I : ax_I) (L : ax_L) (a g r x : Nat) (gn gc : Nat → Nat) (hC : ax_Cls G a) (hgn : ∀ g, g < 6 → I (a + 1 + 1) g = nI (gn g) ∧ gn g ≤ 3) (hgc : ∀ g, g < 6 → I (a + 1 + 2) g = nI (gc g) ∧ gc g ≤ 4) (hg : g < 6) (hr : ax_Rg G r x) (har : r ≠ a + 597) (hd : 5 ≤ d) : ax_Con l D T o yX10_workOutRings cX10_workOutRings 3 none d 0 0 [.ref a, .int (nI g), .ref r] G I L (fun zz G' I' L' => zz = none ∧ G = G' ∧ (ax_wrI I a g r gn) = I' ∧ (ax_wrL I L a g x gn gc) = L') := by
  refine ax_enter (by decide +kernel) (Nat.le_of_ble_eq_true rfl) ?_
  intro p_ e_ s_ m_ args_ below_ meth_ c_ C _
  refine x_lvs (lv' := [(0, .ref a), (1, .int (nI g)), (2, .ref r)]) rfl ?_
  have hb_ := (hgn g hg).2
  refine x_aload_n C (dk ddX10_workOutRings 0 rfl) rfl ?_
  refine x_getr C flX10_10 rfl (by have h_ := hC.1; omega) hC.fld.1 (show ax_R G a 0 = some (a + 1) from hC.fld.2.2 (0, 1) (by decide)) (dk ddX10_workOutRings 1 rfl) ?_
  refine x_iload_n C (dk ddX10_workOutRings 2 rfl) rfl ?_
  refine x_aload_n C (dk ddX10_workOutRings 3 rfl) rfl ?_
  refine x_getr C flX10_69 rfl (by have h_ := hC.1; omega) hC.fld.1 (show ax_R G a 10 = some (a + 597) from hC.fld.2.2 (10, 597) (by decide)) (dk ddX10_workOutRings 4 rfl) ?_
  refine x_callV C (ci := 7) (As := [.int (nI g), .ref (a + 597)]) (k_X7_fill l D T o (d - 1) G I L (a + 1) g (a + 597) (gn g) (gc g) hC.state hC.nothing (by omega) (by omega) (by repeat (first | exact ax_u_at _ _ _ _ | exact (hgn g (by omega)).1 | rw [ax_u_ne (by omega)] | rw [ax_u_nj (by decide)] | rw [ax_sc_ne (by omega)] | unfold ax_ldI | unfold ax_woI | unfold ax_rxI | unfold ax_frI0 | unfold ax_frI1 | unfold ax_frI2 | rw [hI_ _ (by omega)] | rw [hN_ (by omega)])) (hgn g (by omega)).2 (by repeat (first | exact ax_u_at _ _ _ _ | exact (hgc g (by omega)).1 | rw [ax_u_ne (by omega)] | rw [ax_u_nj (by decide)] | rw [ax_sc_ne (by omega)] | unfold ax_ldI | unfold ax_woI | unfold ax_rxI | unfold ax_frI0 | unfold ax_frI1 | unfold ax_frI2 | rw [hI_ _ (by omega)] | rw [hN_ (by omega)])) (hgc g (by omega)).2 (by omega)) mlX10_137 rfl rfl (by have h_ := hC.state.1; omega) (show ax_K G (a + 1) = 8 + 7 from (hC.state.2 0 _ rfl).1) ⟨by show d - 1 + 1 ≤ d; omega, by show 40 * (d - 1 + 1) ≤ 40 * d; omega⟩ ⟨Nat.le_refl _, Nat.le_refl _⟩ rfl (Nat.le_of_ble_eq_true rfl) (dk ddX10_workOutRings 5 rfl) ?_
  rintro v_ G_ I_ L_ ⟨rfl, rfl, rfl, rfl⟩
  refine x_aload_n C (dk ddX10_workOutRings 6 rfl) rfl ?_
  refine x_aload_n C (dk ddX10_workOutRings 7 rfl) rfl ?_
  refine x_getr C flX10_69 rfl (by have h_ := hC.1; omega) hC.fld.1 (show ax_R G a 10 = some (a + 597) from hC.fld.2.2 (10, 597) (by decide)) (dk ddX10_workOutRings 8 rfl) ?_
  refine x_callV C (ci := 4) (As := [.ref (a + 597)]) (k_X4_ofQuotient l D T o (d - 1) G (ax_u I (a + 597) 2 (nI (gn g))) (ax_nth I (a + 1) (a + 597) g (gn g) (gc g) L) r x (a + 597) (gn g) hr hC.nothing (by repeat (first | exact ax_u_at _ _ _ _ | rw [ax_u_ne (by omega)] | rw [ax_u_nj (by decide)] | rw [ax_sc_ne (by omega)] | unfold ax_ldI | unfold ax_woI | unfold ax_rxI | unfold ax_frI0 | unfold ax_frI1 | unfold ax_frI2 | rw [hI_ _ (by omega)] | rw [hN_ (by omega)])) (by omega) (by omega) (by omega)) mlX10_401 rfl rfl hr.1 hr.2.1 ⟨by show d - 1 + 1 ≤ d; omega, by show 40 * (d - 1 + 1) ≤ 40 * d; omega⟩ ⟨Nat.le_refl _, Nat.le_refl _⟩ rfl (Nat.le_of_ble_eq_true rfl) (dk ddX10_workOutRings 9 rfl) ?_
  rintro v_ G_ I_ L_ ⟨rfl, rfl, rfl, rfl⟩
  exact x_vret C rfl ⟨rfl, rfl, rfl, rfl⟩ rfl rfl (dk ddX10_workOutRings 10 rfl)
set_option maxRecDepth 20000 in
/-- ownRing(rings, k) -/
theorem k_X10_ownRing (l : Launch) (D : va_G) (T : Nat → ClassId) (o d : Nat) (G : ax_G) (I : ax_I) (L : ax_L) (r x n k : Nat) (hr : ax_Rg G r x) (hn : I r 1 = nI n) (hn9 : n ≤ 9) (hk : k < 2 ^ 31) (hd : 2 ≤ d) : ax_Con l D T o yX10_ownRing cX10_ownRing 3 (some .int) d 0 0 [.ref r, .int (nI k)] G I L (fun zz G' I' L' => zz = some (.int (if (ax_cn (L x) n) ≤ k then (-3) else (ax_owc (L x) n k).toInt32)) ∧ G = G' ∧ I = I' ∧ L = L') := by
  refine ax_enter (by decide +kernel) (Nat.le_of_ble_eq_true rfl) ?_
  intro p_ e_ s_ m_ args_ below_ meth_ c_ C _
  refine x_lvs (lv' := [(0, .ref r), (1, .int (nI k))]) rfl ?_
  have hc_ := ax_cn_le (L x) n
  refine x_aload_n C (dk ddX10_ownRing 0 rfl) rfl ?_
  refine x_callV C (ci := 4) (As := []) (k_X4_countOwn l D T o (d - 1) G I L r x n hr hn (by omega)) mlX10_133 rfl rfl hr.1 hr.2.1 ⟨by show d - 1 + 1 ≤ d; omega, by show 40 * (d - 1 + 1) ≤ 40 * d; omega⟩ ⟨Nat.le_refl _, Nat.le_refl _⟩ rfl (Nat.le_of_ble_eq_true rfl) (dk ddX10_ownRing 1 rfl) ?_
  rintro v_ G_ I_ L_ ⟨rfl, rfl, rfl, rfl⟩
  refine x_istore_n C (lv' := [(2, .int (nI (ax_cn (L x) n))), (0, .ref r), (1, .int (nI k))]) (dk ddX10_ownRing 2 rfl) (by decide) rfl ?_
  refine x_iload_n C (dk ddX10_ownRing 3 rfl) rfl ?_
  refine x_if_ge_n C (tgt := 11) (dk ddX10_ownRing 4 rfl) (by decide) (by omega) (fun h6 => ?_) (fun h6 => ?_)
  · refine x_iload_n C (dk ddX10_ownRing 7 rfl) rfl ?_
    refine x_iload_n C (dk ddX10_ownRing 8 rfl) rfl ?_
    refine x_icmp_ge_n C (tgt := 25) (dk ddX10_ownRing 9 rfl) (by decide) (by omega) (by omega) (fun h13 => ?_) (fun h13 => ?_)
    · refine x_bipush C (v := (-3)) (dk ddX10_ownRing 15 rfl) (by decide) ?_
      exact x_iret C rfl ⟨(by rw [if_pos h13] <;> rfl), rfl, rfl, rfl⟩ rfl rfl (dk ddX10_ownRing 16 rfl)
    · refine x_aload_n C (dk ddX10_ownRing 10 rfl) rfl ?_
      refine x_iload_n C (dk ddX10_ownRing 11 rfl) rfl ?_
      refine x_callV C (ci := 4) (As := [.int (nI k)]) (k_X4_own l D T o (d - 1) G I L r x n k hr hn (by omega) (by omega) (by omega)) mlX10_404 rfl rfl hr.1 hr.2.1 ⟨by show d - 1 + 1 ≤ d; omega, by show 40 * (d - 1 + 1) ≤ 40 * d; omega⟩ ⟨Nat.le_refl _, Nat.le_refl _⟩ rfl (Nat.le_of_ble_eq_true rfl) (dk ddX10_ownRing 12 rfl) ?_
      rintro v_ G_ I_ L_ ⟨rfl, rfl, rfl, rfl⟩
      refine x_l2i C (dk ddX10_ownRing 13 rfl) ?_
      refine x_goto C (tgt := 27) (dk ddX10_ownRing 14 rfl) (by decide) ?_
      exact x_iret C rfl ⟨(by rw [if_neg (Nat.not_le.mpr h13)] <;> rfl), rfl, rfl, rfl⟩ rfl rfl (dk ddX10_ownRing 16 rfl)
  · exfalso
    omega
set_option maxRecDepth 20000 in
/-- ownRing(rings, -1) -/
theorem k_X10_ownRing_many (l : Launch) (D : va_G) (T : Nat → ClassId) (o d : Nat) (G : ax_G) (I : ax_I) (L : ax_L) (r x n : Nat) (hr : ax_Rg G r x) (hn : I r 1 = nI n) (hn9 : n ≤ 9) (hd : 2 ≤ d) : ax_Con l D T o yX10_ownRing cX10_ownRing 3 (some .int) d 0 0 [.ref r, .int (-1)] G I L (fun zz G' I' L' => zz = some (.int (nI (ax_cn (L x) n))) ∧ G = G' ∧ I = I' ∧ L = L') := by
  refine ax_enter (by decide +kernel) (Nat.le_of_ble_eq_true rfl) ?_
  intro p_ e_ s_ m_ args_ below_ meth_ c_ C _
  refine x_lvs (lv' := [(0, .ref r), (1, .int (-1))]) rfl ?_
  have hc_ := ax_cn_le (L x) n
  refine x_aload_n C (dk ddX10_ownRing 0 rfl) rfl ?_
  refine x_callV C (ci := 4) (As := []) (k_X4_countOwn l D T o (d - 1) G I L r x n hr hn (by omega)) mlX10_133 rfl rfl hr.1 hr.2.1 ⟨by show d - 1 + 1 ≤ d; omega, by show 40 * (d - 1 + 1) ≤ 40 * d; omega⟩ ⟨Nat.le_refl _, Nat.le_refl _⟩ rfl (Nat.le_of_ble_eq_true rfl) (dk ddX10_ownRing 1 rfl) ?_
  rintro v_ G_ I_ L_ ⟨rfl, rfl, rfl, rfl⟩
  refine x_istore_n C (lv' := [(2, .int (nI (ax_cn (L x) n))), (0, .ref r), (1, .int (-1))]) (dk ddX10_ownRing 2 rfl) (by decide) rfl ?_
  refine x_iload_n C (dk ddX10_ownRing 3 rfl) rfl ?_
  refine x_if_ge C (tgt := 11) (dk ddX10_ownRing 4 rfl) (by decide) (fun h_ => absurd h_ (by decide)) (fun _ => ?_)
  refine x_iload_n C (dk ddX10_ownRing 5 rfl) rfl ?_
  exact x_iret C rfl ⟨rfl, rfl, rfl, rfl⟩ rfl rfl (dk ddX10_ownRing 6 rfl)
