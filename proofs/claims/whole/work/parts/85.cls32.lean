/-! ===== the class: moves, runs, the tape ===== -/
def ax_mmL0 (I : ax_I) (L : ax_L) (a : Nat) (g : Nat) (v : Nat) : ax_L := if (ax_rng (nI v) (I (a + 1 + 1) g)) = true then ax_u L (a + 621) v ((L (a + 621) v) + 1) else L
def ax_mmv0 (I : ax_I) (L : ax_L) (a : Nat) (g : Nat) (v : Nat) : Int32 := if (ax_rng (nI v) (I (a + 1 + 1) g)) = true then (if (ax_riw (ax_u L (a + 621) v ((L (a + 621) v) + 1)) a) = true then nI g else (-16)) else (if (ax_riw L a) = true then nI g else (-16))
set_option maxRecDepth 20000 in
/-- makeMove(m, g), sort 0 -/
theorem k_X10_makeMove_0 (l : Launch) (D : va_G) (T : Nat → ClassId) (o d : Nat) (G : ax_G) (I : ax_I) (L : ax_L) (a m g v : Nat) (gn gc : Nat → Nat) (hC : ax_Cls G a) (hgn : ∀ g, g < 6 → I (a + 1 + 1) g = nI (gn g) ∧ gn g ≤ 3) (hgc : ∀ g, g < 6 → I (a + 1 + 2) g = nI (gc g) ∧ gc g ≤ 4) (hm : m < 12) (hg : g < 6) (hs : I (a + 1 + 7) m = nI 0) (hv : I (a + 1 + 8) m = nI v) (hv3 : v < 3) (hd : 4 ≤ d) : ax_Con l D T o yX10_makeMove cX10_makeMove 6 (some .int) d 0 0 [.ref a, .int (nI m), .int (nI g)] G I L (fun zz G' I' L' => zz = some (.int (ax_mmv0 I L a g v)) ∧ G = G' ∧ I = I' ∧ (ax_mmL0 I L a g v) = L') := by
  refine ax_enter (by decide +kernel) (Nat.le_of_ble_eq_true rfl) ?_
  intro p_ e_ s_ m_ args_ below_ meth_ c_ C _
  refine x_lvs (lv' := [(0, .ref a), (1, .int (nI m)), (2, .int (nI g))]) rfl ?_
  have hb_ := (hgn g hg).2
  refine x_iload_n C (dk ddX10_makeMove 0 rfl) rfl ?_
  refine x_if_lt_n C (tgt := 17) (dk ddX10_makeMove 1 rfl) (by decide) (by omega) (fun h1 => ?_) (fun h1 => ?_)
  · exfalso
    omega
  · refine x_iload_n C (dk ddX10_makeMove 2 rfl) rfl ?_
    refine x_bipush C (v := nI 12) (dk ddX10_makeMove 3 rfl) (by decide) ?_
    refine x_icmp_ge_n C (tgt := 17) (dk ddX10_makeMove 4 rfl) (by decide) (by omega) (by decide) (fun h7 => ?_) (fun h7 => ?_)
    · exfalso
      omega
    · refine x_iload_n C (dk ddX10_makeMove 5 rfl) rfl ?_
      refine x_callS C (As := [.int (nI g)]) (k_X10_isGroup l D T o (d - 1) G I L (nI g)) mlX10_98 ⟨by show d - 1 + 1 ≤ d; omega, by show 40 * (d - 1 + 1) ≤ 40 * d; omega⟩ ⟨Nat.le_refl _, Nat.le_refl _⟩ rfl (Nat.le_of_ble_eq_true rfl) (dk ddX10_makeMove 6 rfl) ?_
      rintro v_ G_ I_ L_ ⟨rfl, rfl, rfl, rfl⟩
      rw [show (ax_rng (nI g) 6) = true from ax_rng_ok (h := 6) (by omega) (by decide)]
      refine x_if_ne_b C (tgt := 20) (dk ddX10_makeMove 7 rfl) (by decide) (fun _ => ?_) (fun h_ => absurd h_ (by decide))
      refine x_iload_n C (dk ddX10_makeMove 10 rfl) rfl ?_
      refine x_istore_n C (lv' := [(3, .int (nI g)), (0, .ref a), (1, .int (nI m)), (2, .int (nI g))]) (dk ddX10_makeMove 11 rfl) (by decide) rfl ?_
      refine x_aload_n C (dk ddX10_makeMove 12 rfl) rfl ?_
      refine x_getr C flX10_10 rfl (by have h_ := hC.1; omega) hC.fld.1 (show ax_R G a 0 = some (a + 1) from hC.fld.2.2 (0, 1) (by decide)) (dk ddX10_makeMove 13 rfl) ?_
      refine x_getr C flX10_410 rfl (by have h_ := hC.state.1; omega) (show ax_K G (a + 1) = 8 + 7 from (hC.state.2 0 _ rfl).1) (show ax_R G (a + 1) 8 = some (a + 1 + 8) from (hC.state.2 0 _ rfl).2.2 (8, 8) (by decide)) (dk ddX10_makeMove 14 rfl) ?_
      refine x_iload_n C (dk ddX10_makeMove 15 rfl) rfl ?_
      refine x_iald_n C (by have h_ := hC.state.1; omega) (show ax_K G (a + 1 + 8) = 0 from (hC.state.2 8 _ rfl).1) (show ax_N G (a + 1 + 8) = 12 from (hC.state.2 8 _ rfl).2.1) (by omega) (by decide) (dk ddX10_makeMove 16 rfl) ?_
      rw [show (I (a + 1 + 8) m) = nI v from (by repeat (first | exact ax_u_at _ _ _ _ | exact hv | rw [ax_u_ne (by omega)] | rw [ax_u_nj (by decide)] | rw [ax_sc_ne (by omega)] | rw [ax_drd_ne (by omega)] | rw [ax_irI_ne (by omega)] | unfold ax_cnI | rw [ax_rem_ne (by omega) (by omega)] | unfold ax_ldI | unfold ax_woI | unfold ax_rxI | unfold ax_frI0 | unfold ax_frI1 | unfold ax_frI2 | rw [hI_ _ (by omega)] | rw [hN_ (by omega)]))]
      refine x_istore C (lv' := [(4, .int (nI v)), (3, .int (nI g)), (0, .ref a), (1, .int (nI m)), (2, .int (nI g))]) (dk ddX10_makeMove 17 rfl) (by decide) rfl ?_
      refine x_aload_n C (dk ddX10_makeMove 18 rfl) rfl ?_
      refine x_getr C flX10_10 rfl (by have h_ := hC.1; omega) hC.fld.1 (show ax_R G a 0 = some (a + 1) from hC.fld.2.2 (0, 1) (by decide)) (dk ddX10_makeMove 19 rfl) ?_
      refine x_getr C flX10_413 rfl (by have h_ := hC.state.1; omega) (show ax_K G (a + 1) = 8 + 7 from (hC.state.2 0 _ rfl).1) (show ax_R G (a + 1) 7 = some (a + 1 + 7) from (hC.state.2 0 _ rfl).2.2 (7, 7) (by decide)) (dk ddX10_makeMove 20 rfl) ?_
      refine x_iload_n C (dk ddX10_makeMove 21 rfl) rfl ?_
      refine x_iald_n C (by have h_ := hC.state.1; omega) (show ax_K G (a + 1 + 7) = 0 from (hC.state.2 7 _ rfl).1) (show ax_N G (a + 1 + 7) = 12 from (hC.state.2 7 _ rfl).2.1) (by omega) (by decide) (dk ddX10_makeMove 22 rfl) ?_
      rw [show (I (a + 1 + 7) m) = nI 0 from (by repeat (first | exact ax_u_at _ _ _ _ | exact hs | rw [ax_u_ne (by omega)] | rw [ax_u_nj (by decide)] | rw [ax_sc_ne (by omega)] | rw [ax_drd_ne (by omega)] | rw [ax_irI_ne (by omega)] | unfold ax_cnI | rw [ax_rem_ne (by omega) (by omega)] | unfold ax_ldI | unfold ax_woI | unfold ax_rxI | unfold ax_frI0 | unfold ax_frI1 | unfold ax_frI2 | rw [hI_ _ (by omega)] | rw [hN_ (by omega)]))]
      refine x_tableIn C (off := 26) (tgt := 68) (dk ddX10_makeMove 23 rfl) (by decide) (by decide) (by decide) (by decide) ?_
      refine x_aload_n C (dk ddX10_makeMove 24 rfl) rfl ?_
      refine x_iload_n C (dk ddX10_makeMove 25 rfl) rfl ?_
      refine x_iload C (dk ddX10_makeMove 26 rfl) rfl ?_
      refine x_callV C (ci := 10) (As := [.int (nI g), .int (nI v)]) (k_X10_isPlace l D T o (d - 1) G I L a g (nI v) hC (by omega) (by omega)) mlX10_145 rfl rfl (by have h_ := hC.1; omega) hC.fld.1 ⟨by show d - 1 + 1 ≤ d; omega, by show 40 * (d - 1 + 1) ≤ 40 * d; omega⟩ ⟨Nat.le_refl _, Nat.le_refl _⟩ rfl (Nat.le_of_ble_eq_true rfl) (dk ddX10_makeMove 27 rfl) ?_
      rintro v_ G_ I_ L_ ⟨rfl, rfl, rfl, rfl⟩
      refine x_if_eq_b C (tgt := 195) (dk ddX10_makeMove 28 rfl) (by decide) (fun h75 => ?_) (fun h75 => ?_)
      · refine x_aload_n C (dk ddX10_makeMove 92 rfl) rfl ?_
        refine x_callV C (ci := 10) (As := []) (k_X10_rowIsWithin l D T o (d - 1) G I L a hC (by omega)) mlX10_429 rfl rfl (by have h_ := hC.1; omega) hC.fld.1 ⟨by show d - 1 + 1 ≤ d; omega, by show 40 * (d - 1 + 1) ≤ 40 * d; omega⟩ ⟨Nat.le_refl _, Nat.le_refl _⟩ rfl (Nat.le_of_ble_eq_true rfl) (dk ddX10_makeMove 93 rfl) ?_
        rintro v_ G_ I_ L_ ⟨rfl, rfl, rfl, rfl⟩
        refine x_if_eq_b C (tgt := 206) (dk ddX10_makeMove 94 rfl) (by decide) (fun h199 => ?_) (fun h199 => ?_)
        · refine x_bipush C (v := (-16)) (dk ddX10_makeMove 97 rfl) (by decide) ?_
          exact x_iret C rfl ⟨(by unfold ax_mmv0; rw [if_neg (Bool.eq_false_iff.mp h75), if_neg (Bool.eq_false_iff.mp h199)] <;> rfl), rfl, rfl, (by unfold ax_mmL0; rw [if_neg (Bool.eq_false_iff.mp h75)] <;> rfl)⟩ rfl rfl (dk ddX10_makeMove 98 rfl)
        · refine x_iload_n C (dk ddX10_makeMove 95 rfl) rfl ?_
          refine x_goto C (tgt := 208) (dk ddX10_makeMove 96 rfl) (by decide) ?_
          exact x_iret C rfl ⟨(by unfold ax_mmv0; rw [if_neg (Bool.eq_false_iff.mp h75), if_pos h199] <;> rfl), rfl, rfl, (by unfold ax_mmL0; rw [if_neg (Bool.eq_false_iff.mp h75)] <;> rfl)⟩ rfl rfl (dk ddX10_makeMove 98 rfl)
      · refine x_aload_n C (dk ddX10_makeMove 29 rfl) rfl ?_
        refine x_getr C flX10_89 rfl (by have h_ := hC.1; omega) hC.fld.1 (show ax_R G a 15 = some (a + 621) from hC.fld.2.2 (15, 621) (by decide)) (dk ddX10_makeMove 30 rfl) ?_
        refine x_iload C (dk ddX10_makeMove 31 rfl) rfl ?_
        refine x_dup2 C (dk ddX10_makeMove 32 rfl) rfl rfl ?_
        refine x_lald_n C hC.row.1 hC.row.2.1 hC.row.2.2 (by omega) (by decide) (dk ddX10_makeMove 33 rfl) ?_
        refine x_lconst C (v := 1) (dk ddX10_makeMove 34 rfl) (by decide) ?_
        refine x_ladd C (dk ddX10_makeMove 35 rfl) ?_
        refine x_last_n C hC.row.1 hC.row.2.1 hC.row.2.2 (by omega) (by decide) (dk ddX10_makeMove 36 rfl) ?_
        refine x_goto C (tgt := 195) (dk ddX10_makeMove 37 rfl) (by decide) ?_
        refine x_aload_n C (dk ddX10_makeMove 92 rfl) rfl ?_
        refine x_callV C (ci := 10) (As := []) (k_X10_rowIsWithin l D T o (d - 1) G I (ax_u L (a + 621) v ((L (a + 621) v) + 1)) a hC (by omega)) mlX10_429 rfl rfl (by have h_ := hC.1; omega) hC.fld.1 ⟨by show d - 1 + 1 ≤ d; omega, by show 40 * (d - 1 + 1) ≤ 40 * d; omega⟩ ⟨Nat.le_refl _, Nat.le_refl _⟩ rfl (Nat.le_of_ble_eq_true rfl) (dk ddX10_makeMove 93 rfl) ?_
        rintro v_ G_ I_ L_ ⟨rfl, rfl, rfl, rfl⟩
        refine x_if_eq_b C (tgt := 206) (dk ddX10_makeMove 94 rfl) (by decide) (fun h199 => ?_) (fun h199 => ?_)
        · refine x_bipush C (v := (-16)) (dk ddX10_makeMove 97 rfl) (by decide) ?_
          exact x_iret C rfl ⟨(by unfold ax_mmv0; rw [if_pos h75, if_neg (Bool.eq_false_iff.mp h199)] <;> rfl), rfl, rfl, (by unfold ax_mmL0; rw [if_pos h75] <;> rfl)⟩ rfl rfl (dk ddX10_makeMove 98 rfl)
        · refine x_iload_n C (dk ddX10_makeMove 95 rfl) rfl ?_
          refine x_goto C (tgt := 208) (dk ddX10_makeMove 96 rfl) (by decide) ?_
          exact x_iret C rfl ⟨(by unfold ax_mmv0; rw [if_pos h75, if_pos h199] <;> rfl), rfl, rfl, (by unfold ax_mmL0; rw [if_pos h75] <;> rfl)⟩ rfl rfl (dk ddX10_makeMove 98 rfl)
/-- three numbers times one -/
def ax_mm3 (a : Nat) (v4 : Int32) : Nat → ax_L → ax_L
  | 0, J => J
  | n + 1, J => ax_u (ax_mm3 a v4 n J) (a + 621) n (((ax_mm3 a v4 n J) (a + 621) n) * v4.toInt64)
def ax_mmL1 (I : ax_I) (L : ax_L) (a : Nat) (m : Nat) : ax_L := ax_mm3 a (I (a + 1 + 8) m) 3 L
def ax_mmv1 (I : ax_I) (L : ax_L) (a : Nat) (m : Nat) (g : Nat) : Int32 := if (ax_riw (ax_mm3 a (I (a + 1 + 8) m) 3 L) a) = true then nI g else (-16)
set_option maxRecDepth 20000 in
/-- makeMove(m, g), sort 1 -/
theorem k_X10_makeMove_1 (l : Launch) (D : va_G) (T : Nat → ClassId) (o d : Nat) (G : ax_G) (I : ax_I) (L : ax_L) (a m g : Nat) (gn gc : Nat → Nat) (hC : ax_Cls G a) (hgn : ∀ g, g < 6 → I (a + 1 + 1) g = nI (gn g) ∧ gn g ≤ 3) (hgc : ∀ g, g < 6 → I (a + 1 + 2) g = nI (gc g) ∧ gc g ≤ 4) (hm : m < 12) (hg : g < 6) (hs : I (a + 1 + 7) m = nI 1) (hd : 4 ≤ d) : ax_Con l D T o yX10_makeMove cX10_makeMove 6 (some .int) d 0 0 [.ref a, .int (nI m), .int (nI g)] G I L (fun zz G' I' L' => zz = some (.int (ax_mmv1 I L a m g)) ∧ G = G' ∧ I = I' ∧ (ax_mmL1 I L a m) = L') := by
  refine ax_enter (by decide +kernel) (Nat.le_of_ble_eq_true rfl) ?_
  intro p_ e_ s_ m_ args_ below_ meth_ c_ C _
  refine x_lvs (lv' := [(0, .ref a), (1, .int (nI m)), (2, .int (nI g))]) rfl ?_
  have hb_ := (hgn g hg).2
  refine x_iload_n C (dk ddX10_makeMove 0 rfl) rfl ?_
  refine x_if_lt_n C (tgt := 17) (dk ddX10_makeMove 1 rfl) (by decide) (by omega) (fun h1 => ?_) (fun h1 => ?_)
  · exfalso
    omega
  · refine x_iload_n C (dk ddX10_makeMove 2 rfl) rfl ?_
    refine x_bipush C (v := nI 12) (dk ddX10_makeMove 3 rfl) (by decide) ?_
    refine x_icmp_ge_n C (tgt := 17) (dk ddX10_makeMove 4 rfl) (by decide) (by omega) (by decide) (fun h7 => ?_) (fun h7 => ?_)
    · exfalso
      omega
    · refine x_iload_n C (dk ddX10_makeMove 5 rfl) rfl ?_
      refine x_callS C (As := [.int (nI g)]) (k_X10_isGroup l D T o (d - 1) G I L (nI g)) mlX10_98 ⟨by show d - 1 + 1 ≤ d; omega, by show 40 * (d - 1 + 1) ≤ 40 * d; omega⟩ ⟨Nat.le_refl _, Nat.le_refl _⟩ rfl (Nat.le_of_ble_eq_true rfl) (dk ddX10_makeMove 6 rfl) ?_
      rintro v_ G_ I_ L_ ⟨rfl, rfl, rfl, rfl⟩
      rw [show (ax_rng (nI g) 6) = true from ax_rng_ok (h := 6) (by omega) (by decide)]
      refine x_if_ne_b C (tgt := 20) (dk ddX10_makeMove 7 rfl) (by decide) (fun _ => ?_) (fun h_ => absurd h_ (by decide))
      refine x_iload_n C (dk ddX10_makeMove 10 rfl) rfl ?_
      refine x_istore_n C (lv' := [(3, .int (nI g)), (0, .ref a), (1, .int (nI m)), (2, .int (nI g))]) (dk ddX10_makeMove 11 rfl) (by decide) rfl ?_
      refine x_aload_n C (dk ddX10_makeMove 12 rfl) rfl ?_
      refine x_getr C flX10_10 rfl (by have h_ := hC.1; omega) hC.fld.1 (show ax_R G a 0 = some (a + 1) from hC.fld.2.2 (0, 1) (by decide)) (dk ddX10_makeMove 13 rfl) ?_
      refine x_getr C flX10_410 rfl (by have h_ := hC.state.1; omega) (show ax_K G (a + 1) = 8 + 7 from (hC.state.2 0 _ rfl).1) (show ax_R G (a + 1) 8 = some (a + 1 + 8) from (hC.state.2 0 _ rfl).2.2 (8, 8) (by decide)) (dk ddX10_makeMove 14 rfl) ?_
      refine x_iload_n C (dk ddX10_makeMove 15 rfl) rfl ?_
      refine x_iald_n C (by have h_ := hC.state.1; omega) (show ax_K G (a + 1 + 8) = 0 from (hC.state.2 8 _ rfl).1) (show ax_N G (a + 1 + 8) = 12 from (hC.state.2 8 _ rfl).2.1) (by omega) (by decide) (dk ddX10_makeMove 16 rfl) ?_
      refine x_istore C (lv' := [(4, .int (I (a + 1 + 8) m)), (3, .int (nI g)), (0, .ref a), (1, .int (nI m)), (2, .int (nI g))]) (dk ddX10_makeMove 17 rfl) (by decide) rfl ?_
      refine x_aload_n C (dk ddX10_makeMove 18 rfl) rfl ?_
      refine x_getr C flX10_10 rfl (by have h_ := hC.1; omega) hC.fld.1 (show ax_R G a 0 = some (a + 1) from hC.fld.2.2 (0, 1) (by decide)) (dk ddX10_makeMove 19 rfl) ?_
      refine x_getr C flX10_413 rfl (by have h_ := hC.state.1; omega) (show ax_K G (a + 1) = 8 + 7 from (hC.state.2 0 _ rfl).1) (show ax_R G (a + 1) 7 = some (a + 1 + 7) from (hC.state.2 0 _ rfl).2.2 (7, 7) (by decide)) (dk ddX10_makeMove 20 rfl) ?_
      refine x_iload_n C (dk ddX10_makeMove 21 rfl) rfl ?_
      refine x_iald_n C (by have h_ := hC.state.1; omega) (show ax_K G (a + 1 + 7) = 0 from (hC.state.2 7 _ rfl).1) (show ax_N G (a + 1 + 7) = 12 from (hC.state.2 7 _ rfl).2.1) (by omega) (by decide) (dk ddX10_makeMove 22 rfl) ?_
      rw [show (I (a + 1 + 7) m) = nI 1 from (by repeat (first | exact ax_u_at _ _ _ _ | exact hs | rw [ax_u_ne (by omega)] | rw [ax_u_nj (by decide)] | rw [ax_sc_ne (by omega)] | rw [ax_drd_ne (by omega)] | rw [ax_irI_ne (by omega)] | unfold ax_cnI | rw [ax_rem_ne (by omega) (by omega)] | unfold ax_ldI | unfold ax_woI | unfold ax_rxI | unfold ax_frI0 | unfold ax_frI1 | unfold ax_frI2 | rw [hI_ _ (by omega)] | rw [hN_ (by omega)]))]
      refine x_tableIn C (off := 50) (tgt := 92) (dk ddX10_makeMove 23 rfl) (by decide) (by decide) (by decide) (by decide) ?_
      refine x_iconst C (v := nI 0) (dk ddX10_makeMove 38 rfl) (by decide) ?_
      refine x_istore C (lv' := [(5, .int (nI 0)), (4, .int (I (a + 1 + 8) m)), (3, .int (nI g)), (0, .ref a), (1, .int (nI m)), (2, .int (nI g))]) (dk ddX10_makeMove 39 rfl) (by decide) rfl ?_
      have hl45 : ∀ (n_45 k : Nat), k + n_45 = 3 → ax_XM p_ l e_ s_ m_ args_ below_ meth_ c_ 6 D T o d 0 0 G (fun zz G' I' L' => zz = some (.int (ax_mmv1 I L a m g)) ∧ G = G' ∧ I = I' ∧ (ax_mmL1 I L a m) = L') G I (ax_mm3 a (I (a + 1 + 8) m) k L) 95 [(5, .int (nI k)), (4, .int (I (a + 1 + 8) m)), (3, .int (nI g)), (0, .ref a), (1, .int (nI m)), (2, .int (nI g))] [] := by
        intro n_45
        induction n_45 with
        | zero =>
          intro k hk_45
          rw [show k = 3 by omega]
          refine x_iload C (dk ddX10_makeMove 40 rfl) rfl ?_
          refine x_iconst C (v := nI 3) (dk ddX10_makeMove 41 rfl) (by decide) ?_
          refine x_icmp_ge_n C (tgt := 120) (dk ddX10_makeMove 42 rfl) (by decide) (by decide) (by decide) (fun _ => ?_) (fun h_ => absurd h_ (by decide))
          refine x_goto C (tgt := 195) (dk ddX10_makeMove 54 rfl) (by decide) ?_
          refine x_aload_n C (dk ddX10_makeMove 92 rfl) rfl ?_
          refine x_callV C (ci := 10) (As := []) (k_X10_rowIsWithin l D T o (d - 1) G I (ax_mm3 a (I (a + 1 + 8) m) 3 L) a hC (by omega)) mlX10_429 rfl rfl (by have h_ := hC.1; omega) hC.fld.1 ⟨by show d - 1 + 1 ≤ d; omega, by show 40 * (d - 1 + 1) ≤ 40 * d; omega⟩ ⟨Nat.le_refl _, Nat.le_refl _⟩ rfl (Nat.le_of_ble_eq_true rfl) (dk ddX10_makeMove 93 rfl) ?_
          rintro v_ G_ I_ L_ ⟨rfl, rfl, rfl, rfl⟩
          refine x_if_eq_b C (tgt := 206) (dk ddX10_makeMove 94 rfl) (by decide) (fun h199 => ?_) (fun h199 => ?_)
          · refine x_bipush C (v := (-16)) (dk ddX10_makeMove 97 rfl) (by decide) ?_
            exact x_iret C rfl ⟨(by unfold ax_mmv1; rw [if_neg (Bool.eq_false_iff.mp h199)] <;> rfl), rfl, rfl, rfl⟩ rfl rfl (dk ddX10_makeMove 98 rfl)
          · refine x_iload_n C (dk ddX10_makeMove 95 rfl) rfl ?_
            refine x_goto C (tgt := 208) (dk ddX10_makeMove 96 rfl) (by decide) ?_
            exact x_iret C rfl ⟨(by unfold ax_mmv1; rw [if_pos h199] <;> rfl), rfl, rfl, rfl⟩ rfl rfl (dk ddX10_makeMove 98 rfl)
        | succ n_45 ih_45 =>
          intro k hk_45
          refine x_iload C (dk ddX10_makeMove 40 rfl) rfl ?_
          refine x_iconst C (v := nI 3) (dk ddX10_makeMove 41 rfl) (by decide) ?_
          refine x_icmp_ge_n C (tgt := 120) (dk ddX10_makeMove 42 rfl) (by decide) (by omega) (by decide) (fun h98 => ?_) (fun h98 => ?_)
          · exfalso
            omega
          · refine x_aload_n C (dk ddX10_makeMove 43 rfl) rfl ?_
            refine x_getr C flX10_89 rfl (by have h_ := hC.1; omega) hC.fld.1 (show ax_R G a 15 = some (a + 621) from hC.fld.2.2 (15, 621) (by decide)) (dk ddX10_makeMove 44 rfl) ?_
            refine x_iload C (dk ddX10_makeMove 45 rfl) rfl ?_
            refine x_dup2 C (dk ddX10_makeMove 46 rfl) rfl rfl ?_
            refine x_lald_n C hC.row.1 hC.row.2.1 hC.row.2.2 (by omega) (by decide) (dk ddX10_makeMove 47 rfl) ?_
            refine x_iload C (dk ddX10_makeMove 48 rfl) rfl ?_
            refine x_i2l C (dk ddX10_makeMove 49 rfl) ?_
            refine x_lmul C (dk ddX10_makeMove 50 rfl) ?_
            refine x_last_n C hC.row.1 hC.row.2.1 hC.row.2.2 (by omega) (by decide) (dk ddX10_makeMove 51 rfl) ?_
            refine x_iinc C (v := nI (k + 1)) (lv' := [(5, .int (nI (k + 1))), (4, .int (I (a + 1 + 8) m)), (3, .int (nI g)), (0, .ref a), (1, .int (nI m)), (2, .int (nI g))]) (dk ddX10_makeMove 52 rfl) rfl (nI_add k 1) (by decide) rfl ?_
            refine x_goto C (tgt := 95) (dk ddX10_makeMove 53 rfl) (by decide) ?_
            have e_ : ax_mm3 a (I (a + 1 + 8) m) (k + 1) L = ax_u (ax_mm3 a (I (a + 1 + 8) m) k L) (a + 621) k (((ax_mm3 a (I (a + 1 + 8) m) k L) (a + 621) k) * ((I (a + 1 + 8) m).toInt64)) := rfl
            refine x_sub [0, 1, 2, 3, 4, 5] (lv' := [(5, .int (nI (k + 1))), (4, .int (I (a + 1 + 8) m)), (3, .int (nI g)), (0, .ref a), (1, .int (nI m)), (2, .int (nI g))]) rfl ?_
            have h_ := ih_45 (k + 1) (by omega)
            rw [e_] at h_
            exact h_
      refine x_sub [0, 1, 2, 3, 4, 5] (lv' := [(5, .int (nI 0)), (4, .int (I (a + 1 + 8) m)), (3, .int (nI g)), (0, .ref a), (1, .int (nI m)), (2, .int (nI g))]) rfl ?_
      exact hl45 3 0 (by omega)
def ax_mmL2 (I : ax_I) (L : ax_L) (a : Nat) (m : Nat) (g : Nat) (p : Nat) (q : Nat) : ax_L := if (if (nI p) = (nI g) then (if (I (a + 1 + 11) m) = (I (a + 1 + 1) p) then (if (I (a + 1 + 12) m) = (I (a + 1 + 1) q) then true else false) else false) else false) = true then ax_cp (ax_apt I (a + 1 + 13) (9 * m) (a + 621) (a + 622) L 3) (a + 622) (a + 621) 0 0 3 else L
def ax_mmv2 (I : ax_I) (L : ax_L) (a : Nat) (m : Nat) (g : Nat) (p : Nat) (q : Nat) : Int32 := if (if (nI p) = (nI g) then (if (I (a + 1 + 11) m) = (I (a + 1 + 1) p) then (if (I (a + 1 + 12) m) = (I (a + 1 + 1) q) then true else false) else false) else false) = true then (if (ax_riw (ax_cp (ax_apt I (a + 1 + 13) (9 * m) (a + 621) (a + 622) L 3) (a + 622) (a + 621) 0 0 3) a) = true then nI q else (-16)) else (-4)
set_option maxRecDepth 20000 in
/-- makeMove(m, g), sort 2 -/
theorem k_X10_makeMove_2 (l : Launch) (D : va_G) (T : Nat → ClassId) (o d : Nat) (G : ax_G) (I : ax_I) (L : ax_L) (a m g p q : Nat) (gn gc : Nat → Nat) (hC : ax_Cls G a) (hgn : ∀ g, g < 6 → I (a + 1 + 1) g = nI (gn g) ∧ gn g ≤ 3) (hgc : ∀ g, g < 6 → I (a + 1 + 2) g = nI (gc g) ∧ gc g ≤ 4) (hm : m < 12) (hg : g < 6) (hs : I (a + 1 + 7) m = nI 2) (hp : I (a + 1 + 9) m = nI p) (hp6 : p < 6) (hq : I (a + 1 + 10) m = nI q) (hq6 : q < 6) (hd : 4 ≤ d) : ax_Con l D T o yX10_makeMove cX10_makeMove 6 (some .int) d 0 0 [.ref a, .int (nI m), .int (nI g)] G I L (fun zz G' I' L' => zz = some (.int (ax_mmv2 I L a m g p q)) ∧ G = G' ∧ I = I' ∧ (ax_mmL2 I L a m g p q) = L') := by
  refine ax_enter (by decide +kernel) (Nat.le_of_ble_eq_true rfl) ?_
  intro p_ e_ s_ m_ args_ below_ meth_ c_ C _
  refine x_lvs (lv' := [(0, .ref a), (1, .int (nI m)), (2, .int (nI g))]) rfl ?_
  have hb_ := (hgn g hg).2
  refine x_iload_n C (dk ddX10_makeMove 0 rfl) rfl ?_
  refine x_if_lt_n C (tgt := 17) (dk ddX10_makeMove 1 rfl) (by decide) (by omega) (fun h1 => ?_) (fun h1 => ?_)
  · exfalso
    omega
  · refine x_iload_n C (dk ddX10_makeMove 2 rfl) rfl ?_
    refine x_bipush C (v := nI 12) (dk ddX10_makeMove 3 rfl) (by decide) ?_
    refine x_icmp_ge_n C (tgt := 17) (dk ddX10_makeMove 4 rfl) (by decide) (by omega) (by decide) (fun h7 => ?_) (fun h7 => ?_)
    · exfalso
      omega
    · refine x_iload_n C (dk ddX10_makeMove 5 rfl) rfl ?_
      refine x_callS C (As := [.int (nI g)]) (k_X10_isGroup l D T o (d - 1) G I L (nI g)) mlX10_98 ⟨by show d - 1 + 1 ≤ d; omega, by show 40 * (d - 1 + 1) ≤ 40 * d; omega⟩ ⟨Nat.le_refl _, Nat.le_refl _⟩ rfl (Nat.le_of_ble_eq_true rfl) (dk ddX10_makeMove 6 rfl) ?_
      rintro v_ G_ I_ L_ ⟨rfl, rfl, rfl, rfl⟩
      rw [show (ax_rng (nI g) 6) = true from ax_rng_ok (h := 6) (by omega) (by decide)]
      refine x_if_ne_b C (tgt := 20) (dk ddX10_makeMove 7 rfl) (by decide) (fun _ => ?_) (fun h_ => absurd h_ (by decide))
      refine x_iload_n C (dk ddX10_makeMove 10 rfl) rfl ?_
      refine x_istore_n C (lv' := [(3, .int (nI g)), (0, .ref a), (1, .int (nI m)), (2, .int (nI g))]) (dk ddX10_makeMove 11 rfl) (by decide) rfl ?_
      refine x_aload_n C (dk ddX10_makeMove 12 rfl) rfl ?_
      refine x_getr C flX10_10 rfl (by have h_ := hC.1; omega) hC.fld.1 (show ax_R G a 0 = some (a + 1) from hC.fld.2.2 (0, 1) (by decide)) (dk ddX10_makeMove 13 rfl) ?_
      refine x_getr C flX10_410 rfl (by have h_ := hC.state.1; omega) (show ax_K G (a + 1) = 8 + 7 from (hC.state.2 0 _ rfl).1) (show ax_R G (a + 1) 8 = some (a + 1 + 8) from (hC.state.2 0 _ rfl).2.2 (8, 8) (by decide)) (dk ddX10_makeMove 14 rfl) ?_
      refine x_iload_n C (dk ddX10_makeMove 15 rfl) rfl ?_
      refine x_iald_n C (by have h_ := hC.state.1; omega) (show ax_K G (a + 1 + 8) = 0 from (hC.state.2 8 _ rfl).1) (show ax_N G (a + 1 + 8) = 12 from (hC.state.2 8 _ rfl).2.1) (by omega) (by decide) (dk ddX10_makeMove 16 rfl) ?_
      refine x_istore C (lv' := [(4, .int (I (a + 1 + 8) m)), (3, .int (nI g)), (0, .ref a), (1, .int (nI m)), (2, .int (nI g))]) (dk ddX10_makeMove 17 rfl) (by decide) rfl ?_
      refine x_aload_n C (dk ddX10_makeMove 18 rfl) rfl ?_
      refine x_getr C flX10_10 rfl (by have h_ := hC.1; omega) hC.fld.1 (show ax_R G a 0 = some (a + 1) from hC.fld.2.2 (0, 1) (by decide)) (dk ddX10_makeMove 19 rfl) ?_
      refine x_getr C flX10_413 rfl (by have h_ := hC.state.1; omega) (show ax_K G (a + 1) = 8 + 7 from (hC.state.2 0 _ rfl).1) (show ax_R G (a + 1) 7 = some (a + 1 + 7) from (hC.state.2 0 _ rfl).2.2 (7, 7) (by decide)) (dk ddX10_makeMove 20 rfl) ?_
      refine x_iload_n C (dk ddX10_makeMove 21 rfl) rfl ?_
      refine x_iald_n C (by have h_ := hC.state.1; omega) (show ax_K G (a + 1 + 7) = 0 from (hC.state.2 7 _ rfl).1) (show ax_N G (a + 1 + 7) = 12 from (hC.state.2 7 _ rfl).2.1) (by omega) (by decide) (dk ddX10_makeMove 22 rfl) ?_
      rw [show (I (a + 1 + 7) m) = nI 2 from (by repeat (first | exact ax_u_at _ _ _ _ | exact hs | rw [ax_u_ne (by omega)] | rw [ax_u_nj (by decide)] | rw [ax_sc_ne (by omega)] | rw [ax_drd_ne (by omega)] | rw [ax_irI_ne (by omega)] | unfold ax_cnI | rw [ax_rem_ne (by omega) (by omega)] | unfold ax_ldI | unfold ax_woI | unfold ax_rxI | unfold ax_frI0 | unfold ax_frI1 | unfold ax_frI2 | rw [hI_ _ (by omega)] | rw [hN_ (by omega)]))]
      refine x_tableIn C (off := 81) (tgt := 123) (dk ddX10_makeMove 23 rfl) (by decide) (by decide) (by decide) (by decide) ?_
      refine x_aload_n C (dk ddX10_makeMove 55 rfl) rfl ?_
      refine x_getr C flX10_10 rfl (by have h_ := hC.1; omega) hC.fld.1 (show ax_R G a 0 = some (a + 1) from hC.fld.2.2 (0, 1) (by decide)) (dk ddX10_makeMove 56 rfl) ?_
      refine x_iload_n C (dk ddX10_makeMove 57 rfl) rfl ?_
      refine x_iload_n C (dk ddX10_makeMove 58 rfl) rfl ?_
      refine x_callV C (ci := 7) (As := [.int (nI m), .int (nI g)]) (k_X7_canMove l D T o (d - 1) G I L (a + 1) m p q (nI g) hC.state (by omega) (by repeat (first | exact ax_u_at _ _ _ _ | exact hp | rw [ax_u_ne (by omega)] | rw [ax_u_nj (by decide)] | rw [ax_sc_ne (by omega)] | rw [ax_drd_ne (by omega)] | rw [ax_irI_ne (by omega)] | unfold ax_cnI | rw [ax_rem_ne (by omega) (by omega)] | unfold ax_ldI | unfold ax_woI | unfold ax_rxI | unfold ax_frI0 | unfold ax_frI1 | unfold ax_frI2 | rw [hI_ _ (by omega)] | rw [hN_ (by omega)])) (by omega) (by repeat (first | exact ax_u_at _ _ _ _ | exact hq | rw [ax_u_ne (by omega)] | rw [ax_u_nj (by decide)] | rw [ax_sc_ne (by omega)] | rw [ax_drd_ne (by omega)] | rw [ax_irI_ne (by omega)] | unfold ax_cnI | rw [ax_rem_ne (by omega) (by omega)] | unfold ax_ldI | unfold ax_woI | unfold ax_rxI | unfold ax_frI0 | unfold ax_frI1 | unfold ax_frI2 | rw [hI_ _ (by omega)] | rw [hN_ (by omega)])) (by omega)) mlX10_416 rfl rfl (by have h_ := hC.state.1; omega) (show ax_K G (a + 1) = 8 + 7 from (hC.state.2 0 _ rfl).1) ⟨by show d - 1 + 1 ≤ d; omega, by show 40 * (d - 1 + 1) ≤ 40 * d; omega⟩ ⟨Nat.le_refl _, Nat.le_refl _⟩ rfl (Nat.le_of_ble_eq_true rfl) (dk ddX10_makeMove 59 rfl) ?_
      rintro v_ G_ I_ L_ ⟨rfl, rfl, rfl, rfl⟩
      refine x_if_ne_b C (tgt := 138) (dk ddX10_makeMove 60 rfl) (by decide) (fun h132 => ?_) (fun h132 => ?_)
      · refine x_aload_n C (dk ddX10_makeMove 63 rfl) rfl ?_
        refine x_getr C flX10_10 rfl (by have h_ := hC.1; omega) hC.fld.1 (show ax_R G a 0 = some (a + 1) from hC.fld.2.2 (0, 1) (by decide)) (dk ddX10_makeMove 64 rfl) ?_
        refine x_iload_n C (dk ddX10_makeMove 65 rfl) rfl ?_
        refine x_aload_n C (dk ddX10_makeMove 66 rfl) rfl ?_
        refine x_getr C flX10_89 rfl (by have h_ := hC.1; omega) hC.fld.1 (show ax_R G a 15 = some (a + 621) from hC.fld.2.2 (15, 621) (by decide)) (dk ddX10_makeMove 67 rfl) ?_
        refine x_aload_n C (dk ddX10_makeMove 68 rfl) rfl ?_
        refine x_getr C flX10_93 rfl (by have h_ := hC.1; omega) hC.fld.1 (show ax_R G a 16 = some (a + 622) from hC.fld.2.2 (16, 622) (by decide)) (dk ddX10_makeMove 69 rfl) ?_
        refine x_callV C (ci := 7) (As := [.int (nI m), .ref (a + 621), .ref (a + 622)]) (k_X7_moveRow l D T o (d - 1) G I L (a + 1) m (a + 621) (a + 622) 6 6 hC.state (by omega) ⟨hC.row.1, hC.row.2.1, hC.row.2.2⟩ (by decide) (by decide) ⟨hC.otherRow.1, hC.otherRow.2.1, hC.otherRow.2.2⟩ (by decide) (by decide) (by omega)) mlX10_419 rfl rfl (by have h_ := hC.state.1; omega) (show ax_K G (a + 1) = 8 + 7 from (hC.state.2 0 _ rfl).1) ⟨by show d - 1 + 1 ≤ d; omega, by show 40 * (d - 1 + 1) ≤ 40 * d; omega⟩ ⟨Nat.le_refl _, Nat.le_refl _⟩ rfl (Nat.le_of_ble_eq_true rfl) (dk ddX10_makeMove 70 rfl) ?_
        rintro v_ G_ I_ L_ ⟨rfl, rfl, rfl, rfl⟩
        rw [show I (a + 1 + 10) m = nI q from (by repeat (first | exact ax_u_at _ _ _ _ | exact hq | rw [ax_u_ne (by omega)] | rw [ax_u_nj (by decide)] | rw [ax_sc_ne (by omega)] | rw [ax_drd_ne (by omega)] | rw [ax_irI_ne (by omega)] | unfold ax_cnI | rw [ax_rem_ne (by omega) (by omega)] | unfold ax_ldI | unfold ax_woI | unfold ax_rxI | unfold ax_frI0 | unfold ax_frI1 | unfold ax_frI2 | rw [hI_ _ (by omega)] | rw [hN_ (by omega)]))]
        refine x_istore_n C (lv' := [(3, .int (nI q)), (4, .int (I (a + 1 + 8) m)), (0, .ref a), (1, .int (nI m)), (2, .int (nI g))]) (dk ddX10_makeMove 71 rfl) (by decide) rfl ?_
        refine x_aload_n C (dk ddX10_makeMove 72 rfl) rfl ?_
        refine x_getr C flX10_93 rfl (by have h_ := hC.1; omega) hC.fld.1 (show ax_R G a 16 = some (a + 622) from hC.fld.2.2 (16, 622) (by decide)) (dk ddX10_makeMove 73 rfl) ?_
        refine x_iconst C (v := nI 0) (dk ddX10_makeMove 74 rfl) (by decide) ?_
        refine x_aload_n C (dk ddX10_makeMove 75 rfl) rfl ?_
        refine x_getr C flX10_89 rfl (by have h_ := hC.1; omega) hC.fld.1 (show ax_R G a 15 = some (a + 621) from hC.fld.2.2 (15, 621) (by decide)) (dk ddX10_makeMove 76 rfl) ?_
        refine x_iconst C (v := nI 0) (dk ddX10_makeMove 77 rfl) (by decide) ?_
        refine x_iconst C (v := nI 3) (dk ddX10_makeMove 78 rfl) (by decide) ?_
        refine x_copyl C (n := 3) (ax_inT 4 216 (by decide +kernel)) (ax_inT 2 164 (by decide +kernel)) (ax_inT 2 163 (by decide +kernel)) (ax_inT 1 15 (by decide +kernel)) hC.otherRow.1 hC.otherRow.2.1 hC.row.1 hC.row.2.1 (by rw [hC.otherRow.2.2]; omega) (by rw [hC.row.2.2]; omega) (by omega) (by omega) (by omega) ⟨by show 1 ≤ d; omega, by show 40 ≤ 40 * d; omega⟩ (Nat.le_of_ble_eq_true rfl) (dk ddX10_makeMove 79 rfl) ?_
        refine x_goto C (tgt := 195) (dk ddX10_makeMove 80 rfl) (by decide) ?_
        refine x_aload_n C (dk ddX10_makeMove 92 rfl) rfl ?_
        refine x_callV C (ci := 10) (As := []) (k_X10_rowIsWithin l D T o (d - 1) G I (ax_cp (ax_apt I (a + 1 + 13) (9 * m) (a + 621) (a + 622) L 3) (a + 622) (a + 621) 0 0 3) a hC (by omega)) mlX10_429 rfl rfl (by have h_ := hC.1; omega) hC.fld.1 ⟨by show d - 1 + 1 ≤ d; omega, by show 40 * (d - 1 + 1) ≤ 40 * d; omega⟩ ⟨Nat.le_refl _, Nat.le_refl _⟩ rfl (Nat.le_of_ble_eq_true rfl) (dk ddX10_makeMove 93 rfl) ?_
        rintro v_ G_ I_ L_ ⟨rfl, rfl, rfl, rfl⟩
        refine x_if_eq_b C (tgt := 206) (dk ddX10_makeMove 94 rfl) (by decide) (fun h199 => ?_) (fun h199 => ?_)
        · refine x_bipush C (v := (-16)) (dk ddX10_makeMove 97 rfl) (by decide) ?_
          exact x_iret C rfl ⟨(by unfold ax_mmv2; rw [if_pos h132, if_neg (Bool.eq_false_iff.mp h199)] <;> rfl), rfl, rfl, (by unfold ax_mmL2; rw [if_pos h132] <;> rfl)⟩ rfl rfl (dk ddX10_makeMove 98 rfl)
        · refine x_iload_n C (dk ddX10_makeMove 95 rfl) rfl ?_
          refine x_goto C (tgt := 208) (dk ddX10_makeMove 96 rfl) (by decide) ?_
          exact x_iret C rfl ⟨(by unfold ax_mmv2; rw [if_pos h132, if_pos h199] <;> rfl), rfl, rfl, (by unfold ax_mmL2; rw [if_pos h132] <;> rfl)⟩ rfl rfl (dk ddX10_makeMove 98 rfl)
      · refine x_bipush C (v := (-4)) (dk ddX10_makeMove 61 rfl) (by decide) ?_
        exact x_iret C rfl ⟨(by unfold ax_mmv2; rw [if_neg (Bool.eq_false_iff.mp h132)] <;> rfl), rfl, rfl, (by unfold ax_mmL2; rw [if_neg (Bool.eq_false_iff.mp h132)] <;> rfl)⟩ rfl rfl (dk ddX10_makeMove 62 rfl)
def ax_mmL3 (I : ax_I) (L : ax_L) (a : Nat) (g : Nat) (gn : Nat → Nat) (gc : Nat → Nat) : ax_L := ax_rfo (a + 597) (a + 621) (gn g) 0 ((gn g) - 0) (ax_nth I (a + 1) (a + 597) g (gn g) (gc g) L)
def ax_mmv3 (I : ax_I) (L : ax_L) (a : Nat) (g : Nat) (gn : Nat → Nat) (gc : Nat → Nat) : Int32 := if (ax_riw (ax_rfo (a + 597) (a + 621) (gn g) 0 ((gn g) - 0) (ax_nth I (a + 1) (a + 597) g (gn g) (gc g) L)) a) = true then nI g else (-16)
set_option maxRecDepth 20000 in
/-- makeMove(m, g), sort 3 -/
theorem k_X10_makeMove_3 (l : Launch) (D : va_G) (T : Nat → ClassId) (o d : Nat) (G : ax_G) (I : ax_I) (L : ax_L) (a m g : Nat) (gn gc : Nat → Nat) (hC : ax_Cls G a) (hgn : ∀ g, g < 6 → I (a + 1 + 1) g = nI (gn g) ∧ gn g ≤ 3) (hgc : ∀ g, g < 6 → I (a + 1 + 2) g = nI (gc g) ∧ gc g ≤ 4) (hm : m < 12) (hg : g < 6) (hs : I (a + 1 + 7) m = nI 3) (hd : 4 ≤ d) : ax_Con l D T o yX10_makeMove cX10_makeMove 6 (some .int) d 0 0 [.ref a, .int (nI m), .int (nI g)] G I L (fun zz G' I' L' => zz = some (.int (ax_mmv3 I L a g gn gc)) ∧ G = G' ∧ (ax_u I (a + 597) 2 (nI (gn g))) = I' ∧ (ax_mmL3 I L a g gn gc) = L') := by
  refine ax_enter (by decide +kernel) (Nat.le_of_ble_eq_true rfl) ?_
  intro p_ e_ s_ m_ args_ below_ meth_ c_ C _
  refine x_lvs (lv' := [(0, .ref a), (1, .int (nI m)), (2, .int (nI g))]) rfl ?_
  have hb_ := (hgn g hg).2
  refine x_iload_n C (dk ddX10_makeMove 0 rfl) rfl ?_
  refine x_if_lt_n C (tgt := 17) (dk ddX10_makeMove 1 rfl) (by decide) (by omega) (fun h1 => ?_) (fun h1 => ?_)
  · exfalso
    omega
  · refine x_iload_n C (dk ddX10_makeMove 2 rfl) rfl ?_
    refine x_bipush C (v := nI 12) (dk ddX10_makeMove 3 rfl) (by decide) ?_
    refine x_icmp_ge_n C (tgt := 17) (dk ddX10_makeMove 4 rfl) (by decide) (by omega) (by decide) (fun h7 => ?_) (fun h7 => ?_)
    · exfalso
      omega
    · refine x_iload_n C (dk ddX10_makeMove 5 rfl) rfl ?_
      refine x_callS C (As := [.int (nI g)]) (k_X10_isGroup l D T o (d - 1) G I L (nI g)) mlX10_98 ⟨by show d - 1 + 1 ≤ d; omega, by show 40 * (d - 1 + 1) ≤ 40 * d; omega⟩ ⟨Nat.le_refl _, Nat.le_refl _⟩ rfl (Nat.le_of_ble_eq_true rfl) (dk ddX10_makeMove 6 rfl) ?_
      rintro v_ G_ I_ L_ ⟨rfl, rfl, rfl, rfl⟩
      rw [show (ax_rng (nI g) 6) = true from ax_rng_ok (h := 6) (by omega) (by decide)]
      refine x_if_ne_b C (tgt := 20) (dk ddX10_makeMove 7 rfl) (by decide) (fun _ => ?_) (fun h_ => absurd h_ (by decide))
      refine x_iload_n C (dk ddX10_makeMove 10 rfl) rfl ?_
      refine x_istore_n C (lv' := [(3, .int (nI g)), (0, .ref a), (1, .int (nI m)), (2, .int (nI g))]) (dk ddX10_makeMove 11 rfl) (by decide) rfl ?_
      refine x_aload_n C (dk ddX10_makeMove 12 rfl) rfl ?_
      refine x_getr C flX10_10 rfl (by have h_ := hC.1; omega) hC.fld.1 (show ax_R G a 0 = some (a + 1) from hC.fld.2.2 (0, 1) (by decide)) (dk ddX10_makeMove 13 rfl) ?_
      refine x_getr C flX10_410 rfl (by have h_ := hC.state.1; omega) (show ax_K G (a + 1) = 8 + 7 from (hC.state.2 0 _ rfl).1) (show ax_R G (a + 1) 8 = some (a + 1 + 8) from (hC.state.2 0 _ rfl).2.2 (8, 8) (by decide)) (dk ddX10_makeMove 14 rfl) ?_
      refine x_iload_n C (dk ddX10_makeMove 15 rfl) rfl ?_
      refine x_iald_n C (by have h_ := hC.state.1; omega) (show ax_K G (a + 1 + 8) = 0 from (hC.state.2 8 _ rfl).1) (show ax_N G (a + 1 + 8) = 12 from (hC.state.2 8 _ rfl).2.1) (by omega) (by decide) (dk ddX10_makeMove 16 rfl) ?_
      refine x_istore C (lv' := [(4, .int (I (a + 1 + 8) m)), (3, .int (nI g)), (0, .ref a), (1, .int (nI m)), (2, .int (nI g))]) (dk ddX10_makeMove 17 rfl) (by decide) rfl ?_
      refine x_aload_n C (dk ddX10_makeMove 18 rfl) rfl ?_
      refine x_getr C flX10_10 rfl (by have h_ := hC.1; omega) hC.fld.1 (show ax_R G a 0 = some (a + 1) from hC.fld.2.2 (0, 1) (by decide)) (dk ddX10_makeMove 19 rfl) ?_
      refine x_getr C flX10_413 rfl (by have h_ := hC.state.1; omega) (show ax_K G (a + 1) = 8 + 7 from (hC.state.2 0 _ rfl).1) (show ax_R G (a + 1) 7 = some (a + 1 + 7) from (hC.state.2 0 _ rfl).2.2 (7, 7) (by decide)) (dk ddX10_makeMove 20 rfl) ?_
      refine x_iload_n C (dk ddX10_makeMove 21 rfl) rfl ?_
      refine x_iald_n C (by have h_ := hC.state.1; omega) (show ax_K G (a + 1 + 7) = 0 from (hC.state.2 7 _ rfl).1) (show ax_N G (a + 1 + 7) = 12 from (hC.state.2 7 _ rfl).2.1) (by omega) (by decide) (dk ddX10_makeMove 22 rfl) ?_
      rw [show (I (a + 1 + 7) m) = nI 3 from (by repeat (first | exact ax_u_at _ _ _ _ | exact hs | rw [ax_u_ne (by omega)] | rw [ax_u_nj (by decide)] | rw [ax_sc_ne (by omega)] | rw [ax_drd_ne (by omega)] | rw [ax_irI_ne (by omega)] | unfold ax_cnI | rw [ax_rem_ne (by omega) (by omega)] | unfold ax_ldI | unfold ax_woI | unfold ax_rxI | unfold ax_frI0 | unfold ax_frI1 | unfold ax_frI2 | rw [hI_ _ (by omega)] | rw [hN_ (by omega)]))]
      refine x_tableOut C (tgt := 172) (dk ddX10_makeMove 23 rfl) (by decide) (by decide) ?_
      refine x_aload_n C (dk ddX10_makeMove 81 rfl) rfl ?_
      refine x_getr C flX10_10 rfl (by have h_ := hC.1; omega) hC.fld.1 (show ax_R G a 0 = some (a + 1) from hC.fld.2.2 (0, 1) (by decide)) (dk ddX10_makeMove 82 rfl) ?_
      refine x_iload_n C (dk ddX10_makeMove 83 rfl) rfl ?_
      refine x_aload_n C (dk ddX10_makeMove 84 rfl) rfl ?_
      refine x_getr C flX10_69 rfl (by have h_ := hC.1; omega) hC.fld.1 (show ax_R G a 10 = some (a + 597) from hC.fld.2.2 (10, 597) (by decide)) (dk ddX10_makeMove 85 rfl) ?_
      refine x_callV C (ci := 7) (As := [.int (nI g), .ref (a + 597)]) (k_X7_fill l D T o (d - 1) G I L (a + 1) g (a + 597) (gn g) (gc g) hC.state hC.nothing (by omega) (by omega) (by repeat (first | exact ax_u_at _ _ _ _ | exact (hgn g (by omega)).1 | rw [ax_u_ne (by omega)] | rw [ax_u_nj (by decide)] | rw [ax_sc_ne (by omega)] | rw [ax_drd_ne (by omega)] | rw [ax_irI_ne (by omega)] | unfold ax_cnI | rw [ax_rem_ne (by omega) (by omega)] | unfold ax_ldI | unfold ax_woI | unfold ax_rxI | unfold ax_frI0 | unfold ax_frI1 | unfold ax_frI2 | rw [hI_ _ (by omega)] | rw [hN_ (by omega)])) (hgn g (by omega)).2 (by repeat (first | exact ax_u_at _ _ _ _ | exact (hgc g (by omega)).1 | rw [ax_u_ne (by omega)] | rw [ax_u_nj (by decide)] | rw [ax_sc_ne (by omega)] | rw [ax_drd_ne (by omega)] | rw [ax_irI_ne (by omega)] | unfold ax_cnI | rw [ax_rem_ne (by omega) (by omega)] | unfold ax_ldI | unfold ax_woI | unfold ax_rxI | unfold ax_frI0 | unfold ax_frI1 | unfold ax_frI2 | rw [hI_ _ (by omega)] | rw [hN_ (by omega)])) (hgc g (by omega)).2 (by omega)) mlX10_137 rfl rfl (by have h_ := hC.state.1; omega) (show ax_K G (a + 1) = 8 + 7 from (hC.state.2 0 _ rfl).1) ⟨by show d - 1 + 1 ≤ d; omega, by show 40 * (d - 1 + 1) ≤ 40 * d; omega⟩ ⟨Nat.le_refl _, Nat.le_refl _⟩ rfl (Nat.le_of_ble_eq_true rfl) (dk ddX10_makeMove 86 rfl) ?_
      rintro v_ G_ I_ L_ ⟨rfl, rfl, rfl, rfl⟩
      refine x_aload_n C (dk ddX10_makeMove 87 rfl) rfl ?_
      refine x_getr C flX10_69 rfl (by have h_ := hC.1; omega) hC.fld.1 (show ax_R G a 10 = some (a + 597) from hC.fld.2.2 (10, 597) (by decide)) (dk ddX10_makeMove 88 rfl) ?_
      refine x_aload_n C (dk ddX10_makeMove 89 rfl) rfl ?_
      refine x_getr C flX10_89 rfl (by have h_ := hC.1; omega) hC.fld.1 (show ax_R G a 15 = some (a + 621) from hC.fld.2.2 (15, 621) (by decide)) (dk ddX10_makeMove 90 rfl) ?_
      refine x_callV C (ci := 2) (As := [.ref (a + 621)]) (k_X2_reduce_n l D T o (d - 1) G (ax_u I (a + 597) 2 (nI (gn g))) (ax_nth I (a + 1) (a + 597) g (gn g) (gc g) L) (a + 597) (a + 621) (gn g) 6 hC.nothing (by repeat (first | exact ax_u_at _ _ _ _ | rw [ax_u_ne (by omega)] | rw [ax_u_nj (by decide)] | rw [ax_sc_ne (by omega)] | rw [ax_drd_ne (by omega)] | rw [ax_irI_ne (by omega)] | unfold ax_cnI | rw [ax_rem_ne (by omega) (by omega)] | unfold ax_ldI | unfold ax_woI | unfold ax_rxI | unfold ax_frI0 | unfold ax_frI1 | unfold ax_frI2 | rw [hI_ _ (by omega)] | rw [hN_ (by omega)])) (Nat.le_trans (hgn g (by omega)).2 (by decide)) ⟨hC.row.1, hC.row.2.1, hC.row.2.2⟩ (Nat.le_trans (hgn g (by omega)).2 (by decide)) (by decide) (by omega)) mlX10_163 rfl rfl (by have h_ := hC.nothing.1; omega) hC.nothing.2.1 ⟨by show d - 1 + 1 ≤ d; omega, by show 40 * (d - 1 + 1) ≤ 40 * d; omega⟩ ⟨Nat.le_refl _, Nat.le_refl _⟩ rfl (Nat.le_of_ble_eq_true rfl) (dk ddX10_makeMove 91 rfl) ?_
      rintro v_ G_ I_ L_ ⟨rfl, rfl, rfl, rfl⟩
      refine x_aload_n C (dk ddX10_makeMove 92 rfl) rfl ?_
      refine x_callV C (ci := 10) (As := []) (k_X10_rowIsWithin l D T o (d - 1) G (ax_u I (a + 597) 2 (nI (gn g))) (ax_rfo (a + 597) (a + 621) (gn g) 0 ((gn g) - 0) (ax_nth I (a + 1) (a + 597) g (gn g) (gc g) L)) a hC (by omega)) mlX10_429 rfl rfl (by have h_ := hC.1; omega) hC.fld.1 ⟨by show d - 1 + 1 ≤ d; omega, by show 40 * (d - 1 + 1) ≤ 40 * d; omega⟩ ⟨Nat.le_refl _, Nat.le_refl _⟩ rfl (Nat.le_of_ble_eq_true rfl) (dk ddX10_makeMove 93 rfl) ?_
      rintro v_ G_ I_ L_ ⟨rfl, rfl, rfl, rfl⟩
      refine x_if_eq_b C (tgt := 206) (dk ddX10_makeMove 94 rfl) (by decide) (fun h199 => ?_) (fun h199 => ?_)
      · refine x_bipush C (v := (-16)) (dk ddX10_makeMove 97 rfl) (by decide) ?_
        exact x_iret C rfl ⟨(by unfold ax_mmv3; rw [if_neg (Bool.eq_false_iff.mp h199)] <;> rfl), rfl, rfl, rfl⟩ rfl rfl (dk ddX10_makeMove 98 rfl)
      · refine x_iload_n C (dk ddX10_makeMove 95 rfl) rfl ?_
        refine x_goto C (tgt := 208) (dk ddX10_makeMove 96 rfl) (by decide) ?_
        exact x_iret C rfl ⟨(by unfold ax_mmv3; rw [if_pos h199] <;> rfl), rfl, rfl, rfl⟩ rfl rfl (dk ddX10_makeMove 98 rfl)
