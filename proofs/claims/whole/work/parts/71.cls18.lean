/-! ===== the class: tell ===== -/
/-- a row of at most three numbers, the class's way -/
def ax_tl (x : Nat) (n : Nat) (u v z : Int32) (L : ax_L) : ax_L := ax_u (ax_u (ax_u L x 0 (if 0 < n then u.toInt64 else 0)) x 1 (if 1 < n then v.toInt64 else 0)) x 2 (if 2 < n then z.toInt64 else 0)
set_option maxRecDepth 20000 in
/-- tell(g, u, v, z) -/
theorem k_X10_tell (l : Launch) (D : va_G) (T : Nat → ClassId) (o d : Nat) (G : ax_G) (I : ax_I) (L : ax_L) (a g n : Nat) (u v z : Int32) (hC : ax_Cls G a) (hg : g < 6) (hn : I (a + 1 + 1) g = nI n) (hn3 : n ≤ 3) (hd : 1 ≤ d) : ax_Con l D T o yX10_tell cX10_tell 6 none d 0 0 [.ref a, .int (nI g), .int u, .int v, .int z] G I L (fun y G' I' L' => y = none ∧ G = G' ∧ I = I' ∧ ax_tl (a + 621) n u v z L = L') := by
  refine ax_enter (by decide +kernel) (Nat.le_of_ble_eq_true rfl) ?_
  intro p_ e_ s_ m_ args_ below_ meth_ c_ C _
  refine x_lvs (lv' := [(0, .ref a), (1, .int (nI g)), (2, .int u), (3, .int v), (4, .int z)]) rfl ?_
  refine x_iload_n C (dk ddX10_tell 0 rfl) rfl ?_
  refine x_callS C (As := [.int (nI g)]) (k_X10_isGroup l D T o (d - 1) G I L (nI g)) mlX10_98 ⟨by show d - 1 + 1 ≤ d; omega, by show 40 * (d - 1 + 1) ≤ 40 * d; omega⟩ ⟨Nat.le_refl _, Nat.le_refl _⟩ rfl (Nat.le_of_ble_eq_true rfl) (dk ddX10_tell 1 rfl) ?_
  rintro v_ G_ I_ L_ ⟨rfl, rfl, rfl, rfl⟩
  rw [show (ax_rng (nI g) 6) = true from ax_rng_ok (h := 6) (by omega) (by decide)]
  refine x_if_eq_b C (tgt := 19) (dk ddX10_tell 2 rfl) (by decide) (fun h_ => absurd h_ (by decide)) (fun _ => ?_)
  refine x_aload_n C (dk ddX10_tell 3 rfl) rfl ?_
  refine x_getr C flX10_10 rfl (by have h_ := hC.1; omega) hC.fld.1 (show ax_R G a 0 = some (a + 1) from hC.fld.2.2 (0, 1) (by decide)) (dk ddX10_tell 4 rfl) ?_
  refine x_getr C flX10_106 rfl (by have h_ := hC.state.1; omega) (show ax_K G (a + 1) = 8 + 7 from (hC.state.2 0 _ rfl).1) (show ax_R G (a + 1) 0 = some (a + 1 + 1) from (hC.state.2 0 _ rfl).2.2 (0, 1) (by decide)) (dk ddX10_tell 5 rfl) ?_
  refine x_iload_n C (dk ddX10_tell 6 rfl) rfl ?_
  refine x_iald_n C (by have h_ := hC.state.1; omega) (show ax_K G (a + 1 + 1) = 0 from (hC.state.2 1 _ rfl).1) (show ax_N G (a + 1 + 1) = 6 from (hC.state.2 1 _ rfl).2.1) (by omega) (by decide) (dk ddX10_tell 7 rfl) ?_
  rw [show (I (a + 1 + 1) g) = nI n from hn]
  refine x_goto C (tgt := 20) (dk ddX10_tell 8 rfl) (by decide) ?_
  refine x_istore C (lv' := [(5, .int (nI n)), (0, .ref a), (1, .int (nI g)), (2, .int u), (3, .int v), (4, .int z)]) (dk ddX10_tell 10 rfl) (by decide) rfl ?_
  refine x_aload_n C (dk ddX10_tell 11 rfl) rfl ?_
  refine x_getr C flX10_89 rfl (by have h_ := hC.1; omega) hC.fld.1 (show ax_R G a 15 = some (a + 621) from hC.fld.2.2 (15, 621) (by decide)) (dk ddX10_tell 12 rfl) ?_
  refine x_iconst C (v := nI 0) (dk ddX10_tell 13 rfl) (by decide) ?_
  refine x_iload C (dk ddX10_tell 14 rfl) rfl ?_
  refine x_if_le_n C (tgt := 37) (dk ddX10_tell 15 rfl) (by decide) (by omega) (fun h29 => ?_) (fun h29 => ?_)
  · refine x_lconst C (v := 0) (dk ddX10_tell 19 rfl) (by decide) ?_
    refine x_last_n C (by have h_ := hC.1; omega) (show ax_K G (a + 621) = 2 from (hC.2 621 (2, 6, []) (by decide +kernel)).1) (show ax_N G (a + 621) = 6 from (hC.2 621 (2, 6, []) (by decide +kernel)).2.1) (by decide) (by decide) (dk ddX10_tell 20 rfl) ?_
    refine x_aload_n C (dk ddX10_tell 21 rfl) rfl ?_
    refine x_getr C flX10_89 rfl (by have h_ := hC.1; omega) hC.fld.1 (show ax_R G a 15 = some (a + 621) from hC.fld.2.2 (15, 621) (by decide)) (dk ddX10_tell 22 rfl) ?_
    refine x_iconst C (v := nI 1) (dk ddX10_tell 23 rfl) (by decide) ?_
    refine x_iload C (dk ddX10_tell 24 rfl) rfl ?_
    refine x_iconst C (v := nI 1) (dk ddX10_tell 25 rfl) (by decide) ?_
    refine x_icmp_le_n C (tgt := 55) (dk ddX10_tell 26 rfl) (by decide) (by omega) (by decide) (fun h47 => ?_) (fun h47 => ?_)
    · refine x_lconst C (v := 0) (dk ddX10_tell 30 rfl) (by decide) ?_
      refine x_last_n C (by have h_ := hC.1; omega) (show ax_K G (a + 621) = 2 from (hC.2 621 (2, 6, []) (by decide +kernel)).1) (show ax_N G (a + 621) = 6 from (hC.2 621 (2, 6, []) (by decide +kernel)).2.1) (by decide) (by decide) (dk ddX10_tell 31 rfl) ?_
      refine x_aload_n C (dk ddX10_tell 32 rfl) rfl ?_
      refine x_getr C flX10_89 rfl (by have h_ := hC.1; omega) hC.fld.1 (show ax_R G a 15 = some (a + 621) from hC.fld.2.2 (15, 621) (by decide)) (dk ddX10_tell 33 rfl) ?_
      refine x_iconst C (v := nI 2) (dk ddX10_tell 34 rfl) (by decide) ?_
      refine x_iload C (dk ddX10_tell 35 rfl) rfl ?_
      refine x_iconst C (v := nI 2) (dk ddX10_tell 36 rfl) (by decide) ?_
      refine x_icmp_le_n C (tgt := 74) (dk ddX10_tell 37 rfl) (by decide) (by omega) (by decide) (fun h65 => ?_) (fun h65 => ?_)
      · refine x_lconst C (v := 0) (dk ddX10_tell 41 rfl) (by decide) ?_
        refine x_last_n C (by have h_ := hC.1; omega) (show ax_K G (a + 621) = 2 from (hC.2 621 (2, 6, []) (by decide +kernel)).1) (show ax_N G (a + 621) = 6 from (hC.2 621 (2, 6, []) (by decide +kernel)).2.1) (by decide) (by decide) (dk ddX10_tell 42 rfl) ?_
        exact x_vret C rfl ⟨rfl, rfl, rfl, by unfold ax_tl; rw [if_neg (by omega : ¬ 0 < n), if_neg (by omega : ¬ 1 < n), if_neg (by omega : ¬ 2 < n)]⟩ rfl rfl (dk ddX10_tell 43 rfl)
      · refine x_iload C (dk ddX10_tell 38 rfl) rfl ?_
        refine x_i2l C (dk ddX10_tell 39 rfl) ?_
        refine x_goto C (tgt := 75) (dk ddX10_tell 40 rfl) (by decide) ?_
        refine x_last_n C (by have h_ := hC.1; omega) (show ax_K G (a + 621) = 2 from (hC.2 621 (2, 6, []) (by decide +kernel)).1) (show ax_N G (a + 621) = 6 from (hC.2 621 (2, 6, []) (by decide +kernel)).2.1) (by decide) (by decide) (dk ddX10_tell 42 rfl) ?_
        exact x_vret C rfl ⟨rfl, rfl, rfl, by unfold ax_tl; rw [if_neg (by omega : ¬ 0 < n), if_neg (by omega : ¬ 1 < n), if_pos (by omega : 2 < n)]⟩ rfl rfl (dk ddX10_tell 43 rfl)
    · refine x_iload_n C (dk ddX10_tell 27 rfl) rfl ?_
      refine x_i2l C (dk ddX10_tell 28 rfl) ?_
      refine x_goto C (tgt := 56) (dk ddX10_tell 29 rfl) (by decide) ?_
      refine x_last_n C (by have h_ := hC.1; omega) (show ax_K G (a + 621) = 2 from (hC.2 621 (2, 6, []) (by decide +kernel)).1) (show ax_N G (a + 621) = 6 from (hC.2 621 (2, 6, []) (by decide +kernel)).2.1) (by decide) (by decide) (dk ddX10_tell 31 rfl) ?_
      refine x_aload_n C (dk ddX10_tell 32 rfl) rfl ?_
      refine x_getr C flX10_89 rfl (by have h_ := hC.1; omega) hC.fld.1 (show ax_R G a 15 = some (a + 621) from hC.fld.2.2 (15, 621) (by decide)) (dk ddX10_tell 33 rfl) ?_
      refine x_iconst C (v := nI 2) (dk ddX10_tell 34 rfl) (by decide) ?_
      refine x_iload C (dk ddX10_tell 35 rfl) rfl ?_
      refine x_iconst C (v := nI 2) (dk ddX10_tell 36 rfl) (by decide) ?_
      refine x_icmp_le_n C (tgt := 74) (dk ddX10_tell 37 rfl) (by decide) (by omega) (by decide) (fun h65 => ?_) (fun h65 => ?_)
      · refine x_lconst C (v := 0) (dk ddX10_tell 41 rfl) (by decide) ?_
        refine x_last_n C (by have h_ := hC.1; omega) (show ax_K G (a + 621) = 2 from (hC.2 621 (2, 6, []) (by decide +kernel)).1) (show ax_N G (a + 621) = 6 from (hC.2 621 (2, 6, []) (by decide +kernel)).2.1) (by decide) (by decide) (dk ddX10_tell 42 rfl) ?_
        exact x_vret C rfl ⟨rfl, rfl, rfl, by unfold ax_tl; rw [if_neg (by omega : ¬ 0 < n), if_pos (by omega : 1 < n), if_neg (by omega : ¬ 2 < n)]⟩ rfl rfl (dk ddX10_tell 43 rfl)
      · refine x_iload C (dk ddX10_tell 38 rfl) rfl ?_
        refine x_i2l C (dk ddX10_tell 39 rfl) ?_
        refine x_goto C (tgt := 75) (dk ddX10_tell 40 rfl) (by decide) ?_
        refine x_last_n C (by have h_ := hC.1; omega) (show ax_K G (a + 621) = 2 from (hC.2 621 (2, 6, []) (by decide +kernel)).1) (show ax_N G (a + 621) = 6 from (hC.2 621 (2, 6, []) (by decide +kernel)).2.1) (by decide) (by decide) (dk ddX10_tell 42 rfl) ?_
        exact x_vret C rfl ⟨rfl, rfl, rfl, by unfold ax_tl; rw [if_neg (by omega : ¬ 0 < n), if_pos (by omega : 1 < n), if_pos (by omega : 2 < n)]⟩ rfl rfl (dk ddX10_tell 43 rfl)
  · refine x_iload_n C (dk ddX10_tell 16 rfl) rfl ?_
    refine x_i2l C (dk ddX10_tell 17 rfl) ?_
    refine x_goto C (tgt := 38) (dk ddX10_tell 18 rfl) (by decide) ?_
    refine x_last_n C (by have h_ := hC.1; omega) (show ax_K G (a + 621) = 2 from (hC.2 621 (2, 6, []) (by decide +kernel)).1) (show ax_N G (a + 621) = 6 from (hC.2 621 (2, 6, []) (by decide +kernel)).2.1) (by decide) (by decide) (dk ddX10_tell 20 rfl) ?_
    refine x_aload_n C (dk ddX10_tell 21 rfl) rfl ?_
    refine x_getr C flX10_89 rfl (by have h_ := hC.1; omega) hC.fld.1 (show ax_R G a 15 = some (a + 621) from hC.fld.2.2 (15, 621) (by decide)) (dk ddX10_tell 22 rfl) ?_
    refine x_iconst C (v := nI 1) (dk ddX10_tell 23 rfl) (by decide) ?_
    refine x_iload C (dk ddX10_tell 24 rfl) rfl ?_
    refine x_iconst C (v := nI 1) (dk ddX10_tell 25 rfl) (by decide) ?_
    refine x_icmp_le_n C (tgt := 55) (dk ddX10_tell 26 rfl) (by decide) (by omega) (by decide) (fun h47 => ?_) (fun h47 => ?_)
    · refine x_lconst C (v := 0) (dk ddX10_tell 30 rfl) (by decide) ?_
      refine x_last_n C (by have h_ := hC.1; omega) (show ax_K G (a + 621) = 2 from (hC.2 621 (2, 6, []) (by decide +kernel)).1) (show ax_N G (a + 621) = 6 from (hC.2 621 (2, 6, []) (by decide +kernel)).2.1) (by decide) (by decide) (dk ddX10_tell 31 rfl) ?_
      refine x_aload_n C (dk ddX10_tell 32 rfl) rfl ?_
      refine x_getr C flX10_89 rfl (by have h_ := hC.1; omega) hC.fld.1 (show ax_R G a 15 = some (a + 621) from hC.fld.2.2 (15, 621) (by decide)) (dk ddX10_tell 33 rfl) ?_
      refine x_iconst C (v := nI 2) (dk ddX10_tell 34 rfl) (by decide) ?_
      refine x_iload C (dk ddX10_tell 35 rfl) rfl ?_
      refine x_iconst C (v := nI 2) (dk ddX10_tell 36 rfl) (by decide) ?_
      refine x_icmp_le_n C (tgt := 74) (dk ddX10_tell 37 rfl) (by decide) (by omega) (by decide) (fun h65 => ?_) (fun h65 => ?_)
      · refine x_lconst C (v := 0) (dk ddX10_tell 41 rfl) (by decide) ?_
        refine x_last_n C (by have h_ := hC.1; omega) (show ax_K G (a + 621) = 2 from (hC.2 621 (2, 6, []) (by decide +kernel)).1) (show ax_N G (a + 621) = 6 from (hC.2 621 (2, 6, []) (by decide +kernel)).2.1) (by decide) (by decide) (dk ddX10_tell 42 rfl) ?_
        exact x_vret C rfl ⟨rfl, rfl, rfl, by unfold ax_tl; rw [if_pos (by omega : 0 < n), if_neg (by omega : ¬ 1 < n), if_neg (by omega : ¬ 2 < n)]⟩ rfl rfl (dk ddX10_tell 43 rfl)
      · refine x_iload C (dk ddX10_tell 38 rfl) rfl ?_
        refine x_i2l C (dk ddX10_tell 39 rfl) ?_
        refine x_goto C (tgt := 75) (dk ddX10_tell 40 rfl) (by decide) ?_
        refine x_last_n C (by have h_ := hC.1; omega) (show ax_K G (a + 621) = 2 from (hC.2 621 (2, 6, []) (by decide +kernel)).1) (show ax_N G (a + 621) = 6 from (hC.2 621 (2, 6, []) (by decide +kernel)).2.1) (by decide) (by decide) (dk ddX10_tell 42 rfl) ?_
        exact x_vret C rfl ⟨rfl, rfl, rfl, by unfold ax_tl; rw [if_pos (by omega : 0 < n), if_neg (by omega : ¬ 1 < n), if_pos (by omega : 2 < n)]⟩ rfl rfl (dk ddX10_tell 43 rfl)
    · refine x_iload_n C (dk ddX10_tell 27 rfl) rfl ?_
      refine x_i2l C (dk ddX10_tell 28 rfl) ?_
      refine x_goto C (tgt := 56) (dk ddX10_tell 29 rfl) (by decide) ?_
      refine x_last_n C (by have h_ := hC.1; omega) (show ax_K G (a + 621) = 2 from (hC.2 621 (2, 6, []) (by decide +kernel)).1) (show ax_N G (a + 621) = 6 from (hC.2 621 (2, 6, []) (by decide +kernel)).2.1) (by decide) (by decide) (dk ddX10_tell 31 rfl) ?_
      refine x_aload_n C (dk ddX10_tell 32 rfl) rfl ?_
      refine x_getr C flX10_89 rfl (by have h_ := hC.1; omega) hC.fld.1 (show ax_R G a 15 = some (a + 621) from hC.fld.2.2 (15, 621) (by decide)) (dk ddX10_tell 33 rfl) ?_
      refine x_iconst C (v := nI 2) (dk ddX10_tell 34 rfl) (by decide) ?_
      refine x_iload C (dk ddX10_tell 35 rfl) rfl ?_
      refine x_iconst C (v := nI 2) (dk ddX10_tell 36 rfl) (by decide) ?_
      refine x_icmp_le_n C (tgt := 74) (dk ddX10_tell 37 rfl) (by decide) (by omega) (by decide) (fun h65 => ?_) (fun h65 => ?_)
      · refine x_lconst C (v := 0) (dk ddX10_tell 41 rfl) (by decide) ?_
        refine x_last_n C (by have h_ := hC.1; omega) (show ax_K G (a + 621) = 2 from (hC.2 621 (2, 6, []) (by decide +kernel)).1) (show ax_N G (a + 621) = 6 from (hC.2 621 (2, 6, []) (by decide +kernel)).2.1) (by decide) (by decide) (dk ddX10_tell 42 rfl) ?_
        exact x_vret C rfl ⟨rfl, rfl, rfl, by unfold ax_tl; rw [if_pos (by omega : 0 < n), if_pos (by omega : 1 < n), if_neg (by omega : ¬ 2 < n)]⟩ rfl rfl (dk ddX10_tell 43 rfl)
      · refine x_iload C (dk ddX10_tell 38 rfl) rfl ?_
        refine x_i2l C (dk ddX10_tell 39 rfl) ?_
        refine x_goto C (tgt := 75) (dk ddX10_tell 40 rfl) (by decide) ?_
        refine x_last_n C (by have h_ := hC.1; omega) (show ax_K G (a + 621) = 2 from (hC.2 621 (2, 6, []) (by decide +kernel)).1) (show ax_N G (a + 621) = 6 from (hC.2 621 (2, 6, []) (by decide +kernel)).2.1) (by decide) (by decide) (dk ddX10_tell 42 rfl) ?_
        exact x_vret C rfl ⟨rfl, rfl, rfl, by unfold ax_tl; rw [if_pos (by omega : 0 < n), if_pos (by omega : 1 < n), if_pos (by omega : 2 < n)]⟩ rfl rfl (dk ddX10_tell 43 rfl)
