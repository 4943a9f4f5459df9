/-! ===== the class: isMap, isPlace; clear ===== -/
set_option maxRecDepth 20000 in
/-- isMap(k) -/
theorem k_X10_isMap (l : Launch) (D : va_G) (T : Nat → ClassId) (o d : Nat) (G : ax_G) (I : ax_I) (L : ax_L) (a k : Nat) (hC : ax_Cls G a) (hk : k < 8) (hd : 1 ≤ d) : ax_Con l D T o yX10_isMap cX10_isMap 2 (some .boolean) d 0 0 [.ref a, .int (nI k)] G I L (ax_pure G I L (.int (ax_b (!decide (I (a + 1 + 4) k = -1))))) := by
  refine ax_enter (by decide +kernel) (Nat.le_of_ble_eq_true rfl) ?_
  intro p_ e_ s_ m_ args_ below_ meth_ c_ C _
  refine x_lvs (lv' := [(0, .ref a), (1, .int (nI k))]) rfl ?_
  refine x_aload_n C (dk ddX10_isMap 0 rfl) rfl ?_
  refine x_getr C flX10_10 rfl (by have h_ := hC.1; omega) hC.fld.1 (show ax_R G a 0 = some (a + 1) from hC.fld.2.2 (0, 1) (by decide)) (dk ddX10_isMap 1 rfl) ?_
  refine x_iload_n C (dk ddX10_isMap 2 rfl) rfl ?_
  refine x_callV C (ci := 7) (As := [.int (nI k)]) (k_X7_hasMap l D T o (d - 1) G I L (a + 1) k hC.state (by omega)) mlX10_388 rfl rfl (by have h_ := hC.state.1; omega) (show ax_K G (a + 1) = 8 + 7 from (hC.state.2 0 _ rfl).1) ⟨by show d - 1 + 1 ≤ d; omega, by show 40 * (d - 1 + 1) ≤ 40 * d; omega⟩ ⟨Nat.le_refl _, Nat.le_refl _⟩ rfl (Nat.le_of_ble_eq_true rfl) (dk ddX10_isMap 3 rfl) ?_
  rintro v_ G_ I_ L_ ⟨rfl, rfl, rfl, rfl⟩
  exact x_zret C rfl (ax_b_nar _) (ax_pure_i rfl) rfl rfl (dk ddX10_isMap 4 rfl)
set_option maxRecDepth 20000 in
/-- isMap of none -/
theorem k_X10_isMap_out (l : Launch) (D : va_G) (T : Nat → ClassId) (o d : Nat) (G : ax_G) (I : ax_I) (L : ax_L) (a : Nat) (k : Int32) (hC : ax_Cls G a) (hbad : ax_in3 k.toInt64 0 7 = false) (hd : 1 ≤ d) : ax_Con l D T o yX10_isMap cX10_isMap 2 (some .boolean) d 0 0 [.ref a, .int k] G I L (ax_pure G I L (.int (ax_b false))) := by
  refine ax_enter (by decide +kernel) (Nat.le_of_ble_eq_true rfl) ?_
  intro p_ e_ s_ m_ args_ below_ meth_ c_ C _
  refine x_lvs (lv' := [(0, .ref a), (1, .int k)]) rfl ?_
  refine x_aload_n C (dk ddX10_isMap 0 rfl) rfl ?_
  refine x_getr C flX10_10 rfl (by have h_ := hC.1; omega) hC.fld.1 (show ax_R G a 0 = some (a + 1) from hC.fld.2.2 (0, 1) (by decide)) (dk ddX10_isMap 1 rfl) ?_
  refine x_iload_n C (dk ddX10_isMap 2 rfl) rfl ?_
  refine x_callV C (ci := 7) (As := [.int k]) (k_X7_hasMap_out l D T o (d - 1) G I L (a + 1) k hC.state hbad) mlX10_388 rfl rfl (by have h_ := hC.state.1; omega) (show ax_K G (a + 1) = 8 + 7 from (hC.state.2 0 _ rfl).1) ⟨by show d - 1 + 1 ≤ d; omega, by show 40 * (d - 1 + 1) ≤ 40 * d; omega⟩ ⟨Nat.le_refl _, Nat.le_refl _⟩ rfl (Nat.le_of_ble_eq_true rfl) (dk ddX10_isMap 3 rfl) ?_
  rintro v_ G_ I_ L_ ⟨rfl, rfl, rfl, rfl⟩
  exact x_zret C rfl (ax_b_nar _) (ax_pure_i rfl) rfl rfl (dk ddX10_isMap 4 rfl)
set_option maxRecDepth 20000 in
/-- isPlace(g, k) -/
theorem k_X10_isPlace (l : Launch) (D : va_G) (T : Nat → ClassId) (o d : Nat) (G : ax_G) (I : ax_I) (L : ax_L) (a g : Nat) (k : Int32) (hC : ax_Cls G a) (hg : g < 6) (hd : 1 ≤ d) : ax_Con l D T o yX10_isPlace cX10_isPlace 3 (some .boolean) d 0 0 [.ref a, .int (nI g), .int k] G I L (ax_pure G I L (.int (ax_b (ax_rng k (I (a + 1 + 1) g))))) := by
  refine ax_enter (by decide +kernel) (Nat.le_of_ble_eq_true rfl) ?_
  intro p_ e_ s_ m_ args_ below_ meth_ c_ C _
  refine x_lvs (lv' := [(0, .ref a), (1, .int (nI g)), (2, .int k)]) rfl ?_
  refine x_iload_n C (dk ddX10_isPlace 0 rfl) rfl ?_
  refine x_callS C (As := [.int (nI g)]) (k_X10_isGroup l D T o (d - 1) G I L (nI g)) mlX10_98 ⟨by show d - 1 + 1 ≤ d; omega, by show 40 * (d - 1 + 1) ≤ 40 * d; omega⟩ ⟨Nat.le_refl _, Nat.le_refl _⟩ rfl (Nat.le_of_ble_eq_true rfl) (dk ddX10_isPlace 1 rfl) ?_
  rintro v_ G_ I_ L_ ⟨rfl, rfl, rfl, rfl⟩
  rw [show (ax_rng (nI g) 6) = true from ax_rng_ok (h := 6) (by omega) (by decide)]
  refine x_if_eq_b C (tgt := 28) (dk ddX10_isPlace 2 rfl) (by decide) (fun h_ => absurd h_ (by decide)) (fun _ => ?_)
  refine x_iload_n C (dk ddX10_isPlace 3 rfl) rfl ?_
  refine x_if_lt C (tgt := 28) (dk ddX10_isPlace 4 rfl) (by decide) (fun h8 => ?_) (fun h8 => ?_)
  · have h8c := Int32.not_le.mpr h8
    refine x_iconst C (v := nI 0) (dk ddX10_isPlace 14 rfl) (by decide) ?_
    exact x_zret C rfl rfl (ax_pure_i (by simp [ax_rng, ax_b, ax_nI0, ax_nI1, *])) rfl rfl (dk ddX10_isPlace 15 rfl)
  · have h8c := Int32.not_lt.mp h8
    refine x_iload_n C (dk ddX10_isPlace 5 rfl) rfl ?_
    refine x_aload_n C (dk ddX10_isPlace 6 rfl) rfl ?_
    refine x_getr C flX10_10 rfl (by have h_ := hC.1; omega) hC.fld.1 (show ax_R G a 0 = some (a + 1) from hC.fld.2.2 (0, 1) (by decide)) (dk ddX10_isPlace 7 rfl) ?_
    refine x_getr C flX10_106 rfl (by have h_ := hC.state.1; omega) (show ax_K G (a + 1) = 8 + 7 from (hC.state.2 0 _ rfl).1) (show ax_R G (a + 1) 0 = some (a + 1 + 1) from (hC.state.2 0 _ rfl).2.2 (0, 1) (by decide)) (dk ddX10_isPlace 8 rfl) ?_
    refine x_iload_n C (dk ddX10_isPlace 9 rfl) rfl ?_
    refine x_iald_n C (by have h_ := hC.state.1; omega) (show ax_K G (a + 1 + 1) = 0 from (hC.state.2 1 _ rfl).1) (show ax_N G (a + 1 + 1) = 6 from (hC.state.2 1 _ rfl).2.1) (by omega) (by decide) (dk ddX10_isPlace 10 rfl) ?_
    refine x_icmp_ge C (tgt := 28) (dk ddX10_isPlace 11 rfl) (by decide) (fun h21 => ?_) (fun h21 => ?_)
    · have h21c := Int32.not_lt.mpr h21
      refine x_iconst C (v := nI 0) (dk ddX10_isPlace 14 rfl) (by decide) ?_
      exact x_zret C rfl rfl (ax_pure_i (by simp [ax_rng, ax_b, ax_nI0, ax_nI1, *])) rfl rfl (dk ddX10_isPlace 15 rfl)
    · have h21c := Int32.not_le.mp h21
      refine x_iconst C (v := nI 1) (dk ddX10_isPlace 12 rfl) (by decide) ?_
      refine x_goto C (tgt := 29) (dk ddX10_isPlace 13 rfl) (by decide) ?_
      exact x_zret C rfl rfl (ax_pure_i (by simp [ax_rng, ax_b, ax_nI0, ax_nI1, *])) rfl rfl (dk ddX10_isPlace 15 rfl)
set_option maxRecDepth 20000 in
/-- isPlace of no group -/
theorem k_X10_isPlace_bad (l : Launch) (D : va_G) (T : Nat → ClassId) (o d : Nat) (G : ax_G) (I : ax_I) (L : ax_L) (a : Nat) (g k : Int32) (hC : ax_Cls G a) (hbad : ax_rng g 6 = false) (hd : 1 ≤ d) : ax_Con l D T o yX10_isPlace cX10_isPlace 3 (some .boolean) d 0 0 [.ref a, .int g, .int k] G I L (ax_pure G I L (.int (ax_b false))) := by
  refine ax_enter (by decide +kernel) (Nat.le_of_ble_eq_true rfl) ?_
  intro p_ e_ s_ m_ args_ below_ meth_ c_ C _
  refine x_lvs (lv' := [(0, .ref a), (1, .int g), (2, .int k)]) rfl ?_
  refine x_iload_n C (dk ddX10_isPlace 0 rfl) rfl ?_
  refine x_callS C (As := [.int g]) (k_X10_isGroup l D T o (d - 1) G I L g) mlX10_98 ⟨by show d - 1 + 1 ≤ d; omega, by show 40 * (d - 1 + 1) ≤ 40 * d; omega⟩ ⟨Nat.le_refl _, Nat.le_refl _⟩ rfl (Nat.le_of_ble_eq_true rfl) (dk ddX10_isPlace 1 rfl) ?_
  rintro v_ G_ I_ L_ ⟨rfl, rfl, rfl, rfl⟩
  rw [show (ax_rng g 6) = false from hbad]
  refine x_if_eq_b C (tgt := 28) (dk ddX10_isPlace 2 rfl) (by decide) (fun _ => ?_) (fun h_ => absurd h_ (by decide))
  refine x_iconst C (v := nI 0) (dk ddX10_isPlace 14 rfl) (by decide) ?_
  exact x_zret C rfl rfl (ax_pure_i rfl) rfl rfl (dk ddX10_isPlace 15 rfl)
/-- the first so many rows of a Lattice come to 0 -/
def ax_clr (a : Nat) : Nat → ax_L → ax_L
  | 0, L => L
  | n + 1, L => ax_fl1 (a + 2 + n) 0 6 (ax_clr a n L)
set_option maxRecDepth 20000 in
/-- clear(width) -/
theorem k_X2_clear (l : Launch) (D : va_G) (T : Nat → ClassId) (o d : Nat) (G : ax_G) (I : ax_I) (L : ax_L) (a n : Nat) (ha : ax_Lat G a) (hn : n ≤ 6) (hd : 1 ≤ d) : ax_Con l D T o yX2_clear cX2_clear 3 none d 0 0 [.ref a, .int (nI n)] G I L (fun z G' I' L' => z = none ∧ G = G' ∧ ax_u I a 2 (nI n) = I' ∧ ax_clr a 6 L = L') := by
  refine ax_enter (by decide +kernel) (Nat.le_of_ble_eq_true rfl) ?_
  intro p_ e_ s_ m_ args_ below_ meth_ c_ C _
  refine x_lvs (lv' := [(0, .ref a), (1, .int (nI n))]) rfl ?_
  have hloop : ∀ (n_ k : Nat), k + n_ = 6 → ax_XM p_ l e_ s_ m_ args_ below_ meth_ c_ 3 D T o d 0 0 G (fun z G' I' L' => z = none ∧ G = G' ∧ ax_u I a 2 (nI n) = I' ∧ ax_clr a 6 L = L') G (ax_u I a 2 (nI n)) (ax_clr a k L) 16 [(2, .int (nI k)), (0, .ref a), (1, .int (nI n))] [] := by
    intro n_
    induction n_ with
    | zero =>
      intro k hk_
      rw [show k = 6 by omega]
      refine x_iload_n C (dk ddX2_clear 9 rfl) rfl ?_
      refine x_bipush C (v := nI 6) (dk ddX2_clear 10 rfl) (by decide) ?_
      refine x_icmp_ge_n C (tgt := 38) (dk ddX2_clear 11 rfl) (by decide) (by decide) (by decide) (fun _ => ?_) (fun h_ => absurd h_ (by decide))
      exact x_vret C rfl ⟨rfl, rfl, rfl, rfl⟩ rfl rfl (dk ddX2_clear 20 rfl)
    | succ n_ ih_ =>
      intro k hk_
      refine x_iload_n C (dk ddX2_clear 9 rfl) rfl ?_
      refine x_bipush C (v := nI 6) (dk ddX2_clear 10 rfl) (by decide) ?_
      refine x_icmp_ge_n C (tgt := 38) (dk ddX2_clear 11 rfl) (by decide) (by omega) (by decide) (fun h19 => ?_) (fun h19 => ?_)
      · exfalso
        omega
      · refine x_aload_n C (dk ddX2_clear 12 rfl) rfl ?_
        refine x_getr C flX2_11 rfl (by have h_ := ha.1; omega) ha.2.1 ha.2.2.1 (dk ddX2_clear 13 rfl) ?_
        refine x_iload_n C (dk ddX2_clear 14 rfl) rfl ?_
        refine x_aald7_n C (by have h_ := ha.1; omega) ha.2.2.2.2.1 ha.2.2.2.2.2.1 (by omega) (by decide) (ha.2.2.2.2.2.2.1 k (by omega)).1 (dk ddX2_clear 15 rfl) ?_
        refine x_lconst C (v := 0) (dk ddX2_clear 16 rfl) (by decide) ?_
        refine x_callS C (As := [.ref (a + 2 + k), .long 0]) (k_J7_fill_d0a16 l D T o (d - 1) G (ax_u I a 2 (nI n)) (ax_clr a k L) (a + 2 + k) 6 0 (by have h_ := ha.1; omega) (ha.2.2.2.2.2.2.1 k (by omega)).2.1 (ha.2.2.2.2.2.2.1 k (by omega)).2.2 (by decide) (by omega)) mlX2_33 ⟨by show d - 1 + 1 ≤ d; omega, by show 40 * (d - 1 + 1) ≤ 40 * d; omega⟩ ⟨Nat.le_refl _, Nat.le_refl _⟩ rfl (Nat.le_of_ble_eq_true rfl) (dk ddX2_clear 17 rfl) ?_
        rintro v_ G_ I_ L_ ⟨rfl, rfl, rfl, rfl⟩
        refine x_iinc C (v := nI (k + 1)) (lv' := [(2, .int (nI (k + 1))), (0, .ref a), (1, .int (nI n))]) (dk ddX2_clear 18 rfl) rfl (nI_add k 1) (by decide) rfl ?_
        refine x_goto C (tgt := 16) (dk ddX2_clear 19 rfl) (by decide) ?_
        refine x_sub [0, 1, 2] (lv' := [(2, .int (nI (k + 1))), (0, .ref a), (1, .int (nI n))]) rfl ?_
        exact ih_ (k + 1) (by omega)
  refine x_aload_n C (dk ddX2_clear 0 rfl) rfl ?_
  refine x_iconst C (v := nI 0) (dk ddX2_clear 1 rfl) (by decide) ?_
  refine x_iload_n C (dk ddX2_clear 2 rfl) rfl ?_
  refine x_bipush C (v := nI 6) (dk ddX2_clear 3 rfl) (by decide) ?_
  refine x_callS C (As := [.int (nI n), .int (nI 6)]) (k_J9_min_7cf53 l D T o (d - 1) G I L (nI n) (nI 6)) mlX2_24 ⟨by show d - 1 + 1 ≤ d; omega, by show 40 * (d - 1 + 1) ≤ 40 * d; omega⟩ ⟨Nat.le_refl _, Nat.le_refl _⟩ rfl (Nat.le_of_ble_eq_true rfl) (dk ddX2_clear 4 rfl) ?_
  rintro v_ G_ I_ L_ ⟨rfl, rfl, rfl, rfl⟩
  rw [show (if nI 6 < nI n then nI 6 else nI n) = nI n from if_neg (fun q => by have := (nI_ltI (by omega) (by omega)).mp q; omega)]
  refine x_callS C (As := [.int (nI 0), .int (nI n)]) (k_J9_max_7cf53 l D T o (d - 1) G I L (nI 0) (nI n)) mlX2_30 ⟨by show d - 1 + 1 ≤ d; omega, by show 40 * (d - 1 + 1) ≤ 40 * d; omega⟩ ⟨Nat.le_refl _, Nat.le_refl _⟩ rfl (Nat.le_of_ble_eq_true rfl) (dk ddX2_clear 5 rfl) ?_
  rintro v_ G_ I_ L_ ⟨rfl, rfl, rfl, rfl⟩
  rw [show (if nI 0 < nI n then nI n else nI 0) = nI n from by by_cases q : nI 0 < nI n; exact if_pos q; rw [if_neg q, show n = 0 from (by have := mt (nI_ltI (a := 0) (b := n) (by omega) (by omega)).mpr q; omega)]]
  refine x_puti C flX2_20 fw2 rfl rfl (by have h_ := ha.1; omega) ha.2.1 rfl rfl (dk ddX2_clear 6 rfl) ?_
  refine x_iconst C (v := nI 0) (dk ddX2_clear 7 rfl) (by decide) ?_
  refine x_istore_n C (lv' := [(2, .int (nI 0)), (0, .ref a), (1, .int (nI n))]) (dk ddX2_clear 8 rfl) (by decide) rfl ?_
  exact hloop 6 0 (by omega)
