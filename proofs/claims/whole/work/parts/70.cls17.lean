/-! ===== the class: step ===== -/
set_option maxRecDepth 20000 in
/-- step of no group -/
theorem k_X10_step_bad (l : Launch) (D : va_G) (T : Nat → ClassId) (o d : Nat) (G : ax_G) (I : ax_I) (L : ax_L) (a : Nat) (g k : Int32) (hC : ax_Cls G a) (hbad : ax_rng g 6 = false) (hd : 2 ≤ d) : ax_Con l D T o yX10_step cX10_step 3 (some .int) d 0 0 [.ref a, .int g, .int k] G I L (ax_pure G I L (.int (-1))) := by
  refine ax_enter (by decide +kernel) (Nat.le_of_ble_eq_true rfl) ?_
  intro p_ e_ s_ m_ args_ below_ meth_ c_ C _
  refine x_lvs (lv' := [(0, .ref a), (1, .int g), (2, .int k)]) rfl ?_
  refine x_aload_n C (dk ddX10_step 0 rfl) rfl ?_
  refine x_iload_n C (dk ddX10_step 1 rfl) rfl ?_
  refine x_iload_n C (dk ddX10_step 2 rfl) rfl ?_
  refine x_callV C (ci := 10) (As := [.int g, .int k]) (k_X10_isPlace_bad l D T o (d - 1) G I L a g k hC hbad (by omega)) mlX10_145 rfl rfl (by have h_ := hC.1; omega) hC.fld.1 ⟨by show d - 1 + 1 ≤ d; omega, by show 40 * (d - 1 + 1) ≤ 40 * d; omega⟩ ⟨Nat.le_refl _, Nat.le_refl _⟩ rfl (Nat.le_of_ble_eq_true rfl) (dk ddX10_step 3 rfl) ?_
  rintro v_ G_ I_ L_ ⟨rfl, rfl, rfl, rfl⟩
  refine x_if_ne_b C (tgt := 11) (dk ddX10_step 4 rfl) (by decide) (fun h_ => absurd h_ (by decide)) (fun _ => ?_)
  refine x_iconst C (v := (-1)) (dk ddX10_step 5 rfl) (by decide) ?_
  exact x_iret C rfl (ax_pure_i rfl) rfl rfl (dk ddX10_step 6 rfl)
set_option maxRecDepth 20000 in
/-- step of no place -/
theorem k_X10_step_out (l : Launch) (D : va_G) (T : Nat → ClassId) (o d : Nat) (G : ax_G) (I : ax_I) (L : ax_L) (a g : Nat) (k : Int32) (hC : ax_Cls G a) (hg : g < 6) (hbad : ax_rng k (I (a + 1 + 1) g) = false) (hd : 2 ≤ d) : ax_Con l D T o yX10_step cX10_step 3 (some .int) d 0 0 [.ref a, .int (nI g), .int k] G I L (ax_pure G I L (.int (-1))) := by
  refine ax_enter (by decide +kernel) (Nat.le_of_ble_eq_true rfl) ?_
  intro p_ e_ s_ m_ args_ below_ meth_ c_ C _
  refine x_lvs (lv' := [(0, .ref a), (1, .int (nI g)), (2, .int k)]) rfl ?_
  refine x_aload_n C (dk ddX10_step 0 rfl) rfl ?_
  refine x_iload_n C (dk ddX10_step 1 rfl) rfl ?_
  refine x_iload_n C (dk ddX10_step 2 rfl) rfl ?_
  refine x_callV C (ci := 10) (As := [.int (nI g), .int k]) (k_X10_isPlace l D T o (d - 1) G I L a g k hC (by omega) (by omega)) mlX10_145 rfl rfl (by have h_ := hC.1; omega) hC.fld.1 ⟨by show d - 1 + 1 ≤ d; omega, by show 40 * (d - 1 + 1) ≤ 40 * d; omega⟩ ⟨Nat.le_refl _, Nat.le_refl _⟩ rfl (Nat.le_of_ble_eq_true rfl) (dk ddX10_step 3 rfl) ?_
  rintro v_ G_ I_ L_ ⟨rfl, rfl, rfl, rfl⟩
  rw [show (ax_rng k (I (a + 1 + 1) g)) = false from hbad]
  refine x_if_ne_b C (tgt := 11) (dk ddX10_step 4 rfl) (by decide) (fun h_ => absurd h_ (by decide)) (fun _ => ?_)
  refine x_iconst C (v := (-1)) (dk ddX10_step 5 rfl) (by decide) ?_
  exact x_iret C rfl (ax_pure_i rfl) rfl rfl (dk ddX10_step 6 rfl)
set_option maxRecDepth 20000 in
/-- step(g, k) -/
theorem k_X10_step (l : Launch) (D : va_G) (T : Nat → ClassId) (o d : Nat) (G : ax_G) (I : ax_I) (L : ax_L) (a g k n c : Nat) (hC : ax_Cls G a) (hg : g < 6) (hn : I (a + 1 + 1) g = nI n) (hn3 : n ≤ 3) (hc : I (a + 1 + 2) g = nI c) (hc4 : c ≤ 4) (hk : k < n) (hd : 4 ≤ d) : ax_Con l D T o yX10_step cX10_step 3 (some .int) d 0 0 [.ref a, .int (nI g), .int (nI k)] G I L (fun z G' I' L' => z = some (.int ((ax_fno (ax_u I (a + 597) 2 (nI n)) (a + 1) (a + 597) g n c (ax_clr (a + 597) 6 L)) (a + 597 + 2 + k) k).toInt32) ∧ G = G' ∧ ax_u I (a + 597) 2 (nI n) = I' ∧ ax_fno (ax_u I (a + 597) 2 (nI n)) (a + 1) (a + 597) g n c (ax_clr (a + 597) 6 L) = L') := by
  refine ax_enter (by decide +kernel) (Nat.le_of_ble_eq_true rfl) ?_
  intro p_ e_ s_ m_ args_ below_ meth_ c_ C _
  refine x_lvs (lv' := [(0, .ref a), (1, .int (nI g)), (2, .int (nI k))]) rfl ?_
  have hp_ : ax_rng (nI k) (I (a + 1 + 1) g) = true := by rw [hn]; exact ax_rng_ok hk (by omega)
  refine x_aload_n C (dk ddX10_step 0 rfl) rfl ?_
  refine x_iload_n C (dk ddX10_step 1 rfl) rfl ?_
  refine x_iload_n C (dk ddX10_step 2 rfl) rfl ?_
  refine x_callV C (ci := 10) (As := [.int (nI g), .int (nI k)]) (k_X10_isPlace l D T o (d - 1) G I L a g (nI k) hC (by omega) (by omega)) mlX10_145 rfl rfl (by have h_ := hC.1; omega) hC.fld.1 ⟨by show d - 1 + 1 ≤ d; omega, by show 40 * (d - 1 + 1) ≤ 40 * d; omega⟩ ⟨Nat.le_refl _, Nat.le_refl _⟩ rfl (Nat.le_of_ble_eq_true rfl) (dk ddX10_step 3 rfl) ?_
  rintro v_ G_ I_ L_ ⟨rfl, rfl, rfl, rfl⟩
  rw [show (ax_rng (nI k) (I (a + 1 + 1) g)) = true from hp_]
  refine x_if_ne_b C (tgt := 11) (dk ddX10_step 4 rfl) (by decide) (fun _ => ?_) (fun h_ => absurd h_ (by decide))
  refine x_aload_n C (dk ddX10_step 7 rfl) rfl ?_
  refine x_getr C flX10_10 rfl (by have h_ := hC.1; omega) hC.fld.1 (show ax_R G a 0 = some (a + 1) from hC.fld.2.2 (0, 1) (by decide)) (dk ddX10_step 8 rfl) ?_
  refine x_iload_n C (dk ddX10_step 9 rfl) rfl ?_
  refine x_aload_n C (dk ddX10_step 10 rfl) rfl ?_
  refine x_getr C flX10_69 rfl (by have h_ := hC.1; omega) hC.fld.1 (show ax_R G a 10 = some (a + 597) from hC.fld.2.2 (10, 597) (by decide)) (dk ddX10_step 11 rfl) ?_
  refine x_callV C (ci := 7) (As := [.int (nI g), .ref (a + 597)]) (k_X7_fillNothing l D T o (d - 1) G I L (a + 1) g (a + 597) n c hC.state hC.nothing (by omega) (by omega) hn hn3 hc hc4 (by omega)) mlX10_137 rfl rfl (by have h_ := hC.state.1; omega) (show ax_K G (a + 1) = 8 + 7 from (hC.state.2 0 _ rfl).1) ⟨by show d - 1 + 1 ≤ d; omega, by show 40 * (d - 1 + 1) ≤ 40 * d; omega⟩ ⟨Nat.le_refl _, Nat.le_refl _⟩ rfl (Nat.le_of_ble_eq_true rfl) (dk ddX10_step 12 rfl) ?_
  rintro v_ G_ I_ L_ ⟨rfl, rfl, rfl, rfl⟩
  refine x_aload_n C (dk ddX10_step 13 rfl) rfl ?_
  refine x_getr C flX10_69 rfl (by have h_ := hC.1; omega) hC.fld.1 (show ax_R G a 10 = some (a + 597) from hC.fld.2.2 (10, 597) (by decide)) (dk ddX10_step 14 rfl) ?_
  refine x_iload_n C (dk ddX10_step 15 rfl) rfl ?_
  refine x_callV C (ci := 2) (As := [.int (nI k)]) (k_X2_lead l D T o (d - 1) G (ax_u I (a + 597) 2 (nI n)) (ax_fno (ax_u I (a + 597) 2 (nI n)) (a + 1) (a + 597) g n c (ax_clr (a + 597) 6 L)) (a + 597) n (nI k) hC.nothing (ax_u_at _ _ _ _) (by omega)) mlX10_152 rfl rfl (by have h_ := hC.nothing.1; omega) hC.nothing.2.1 ⟨by show d - 1 + 1 ≤ d; omega, by show 40 * (d - 1 + 1) ≤ 40 * d; omega⟩ ⟨Nat.le_refl _, Nat.le_refl _⟩ rfl (Nat.le_of_ble_eq_true rfl) (dk ddX10_step 16 rfl) ?_
  rintro v_ G_ I_ L_ ⟨rfl, rfl, rfl, rfl⟩
  rw [show (if nI k < 0 then (0 : Int64) else if nI n ≤ nI k then 0 else (ax_fno (ax_u I (a + 597) 2 (nI n)) (a + 1) (a + 597) g n c (ax_clr (a + 597) 6 L)) (a + 597 + 2 + (nI k).toNatClampNeg) (nI k).toNatClampNeg) = (ax_fno (ax_u I (a + 597) 2 (nI n)) (a + 1) (a + 597) g n c (ax_clr (a + 597) 6 L)) (a + 597 + 2 + k) k from by rw [if_neg (nI_pos (by omega)), if_neg (fun q => by have := (nI_leI (by omega) (by omega)).mp q; omega), pk_cl (x := nI k) k rfl (by omega)]]
  refine x_l2i C (dk ddX10_step 17 rfl) ?_
  exact x_iret C rfl ⟨rfl, rfl, rfl, rfl⟩ rfl rfl (dk ddX10_step 18 rfl)
