/-! ===== the class: changes ===== -/
/-- what is remembered ahead of a change: c the next place, k how many -/
def ax_rem (a c k : Nat) (I : ax_I) : ax_I := ax_u (ax_u (ax_sc (a + 1) (a + 29 + (2 + 14 * c)) I) (a + 29) 1 (nI ((c + 1) % 20))) (a + 29) 2 (if nI 20 < nI (k + 1) then nI 20 else nI (k + 1))
theorem ax_rem_ne {a c k q : Nat} {I : ax_I} (hc : c < 20) (h : q < a + 29 ∨ a + 311 ≤ q) : ax_rem a c k I q = I q := by
  unfold ax_rem
  rw [ax_u_ne (by omega), ax_u_ne (by omega), ax_sc_ne (by omega)]
theorem k_X1_rem (l : Launch) (D : va_G) (T : Nat → ClassId) (o d : Nat) (G : ax_G) (I : ax_I) (L : ax_L) (a c k : Nat) (hC : ax_Cls G a) (hc : I (a + 29) 1 = nI c) (hk : I (a + 29) 2 = nI k) (hc2 : c < 20) (hk2 : k ≤ 20) (hd : 3 ≤ d) : ax_Con l D T o yX1_remember cX1_remember 2 none d 0 0 [.ref (a + 29), .ref (a + 1)] G I L (fun z G' I' L' => z = none ∧ G = G' ∧ ax_rem a c k I = I' ∧ L = L') := k_X1_remember l D T o d G I L (a + 29) (a + 1) c k hC.history hC.state hc hk hc2 hk2 hd
theorem k_X10_isMapI (l : Launch) (D : va_G) (T : Nat → ClassId) (o d : Nat) (G : ax_G) (I : ax_I) (L : ax_L) (a : Nat) (k : Int32) (hC : ax_Cls G a) (hd : 1 ≤ d) : ax_Con l D T o yX10_isMap cX10_isMap 2 (some .boolean) d 0 0 [.ref a, .int k] G I L (ax_pure G I L (.int (ax_b (ax_in3 k.toInt64 0 7 && !decide (I (a + 1 + 4) k.toNatClampNeg = -1))))) := by
  cases h : ax_in3 k.toInt64 0 7 with
  | false => rw [Bool.false_and]; exact k_X10_isMap_out l D T o d G I L a k hC h hd
  | true =>
    obtain ⟨n, hn, rfl⟩ := ax_in3_nat (x := k) (h := 7) (by decide) h
    rw [Bool.true_and, nI_clamp (by omega)]
    exact k_X10_isMap l D T o d G I L a n hC (by omega) hd
set_option maxRecDepth 20000 in
/-- isCell of no map -/
theorem k_X10_isCell_no (l : Launch) (D : va_G) (T : Nat → ClassId) (o d : Nat) (G : ax_G) (I : ax_I) (L : ax_L) (a : Nat) (f x y : Int32) (hC : ax_Cls G a) (hbad : (ax_in3 f.toInt64 0 7 && !decide (I (a + 1 + 4) f.toNatClampNeg = -1)) = false) (hd : 2 ≤ d) : ax_Con l D T o yX10_isCell cX10_isCell 4 (some .boolean) d 0 0 [.ref a, .int f, .int x, .int y] G I L (fun zz G' I' L' => zz = some (.int (ax_b (false))) ∧ G = G' ∧ I = I' ∧ L = L') := by
  refine ax_enter (by decide +kernel) (Nat.le_of_ble_eq_true rfl) ?_
  intro p_ e_ s_ m_ args_ below_ meth_ c_ C _
  refine x_lvs (lv' := [(0, .ref a), (1, .int f), (2, .int x), (3, .int y)]) rfl ?_
  refine x_aload_n C (dk ddX10_isCell 0 rfl) rfl ?_
  refine x_iload_n C (dk ddX10_isCell 1 rfl) rfl ?_
  refine x_callV C (ci := 10) (As := [.int f]) (k_X10_isMapI l D T o (d - 1) G I L a f hC (by omega)) mlX10_218 rfl rfl (by have h_ := hC.1; omega) hC.fld.1 ⟨by show d - 1 + 1 ≤ d; omega, by show 40 * (d - 1 + 1) ≤ 40 * d; omega⟩ ⟨Nat.le_refl _, Nat.le_refl _⟩ rfl (Nat.le_of_ble_eq_true rfl) (dk ddX10_isCell 2 rfl) ?_
  rintro v_ G_ I_ L_ ⟨rfl, rfl, rfl, rfl⟩
  rw [show (ax_in3 f.toInt64 0 7 && !decide (I (a + 1 + 4) f.toNatClampNeg = -1)) = false from hbad]
  refine x_if_eq_b C (tgt := 46) (dk ddX10_isCell 3 rfl) (by decide) (fun _ => ?_) (fun h_ => absurd h_ (by decide))
  refine x_iconst C (v := nI 0) (dk ddX10_isCell 24 rfl) (by decide) ?_
  exact x_zret C rfl rfl ⟨rfl, rfl, rfl, rfl⟩ rfl rfl (dk ddX10_isCell 25 rfl)
def ax_icl (I : ax_I) (a : Nat) (g : Nat) (h : Nat) (x : Int32) (y : Int32) : Bool := if (ax_rng x (I (a + 1 + 1) g)) = true then (if (ax_rng y (I (a + 1 + 1) h)) = true then true else false) else false
set_option maxRecDepth 20000 in
/-- isCell(j, x, y) -/
theorem k_X10_isCell (l : Launch) (D : va_G) (T : Nat → ClassId) (o d : Nat) (G : ax_G) (I : ax_I) (L : ax_L) (a j g h : Nat) (x y : Int32) (gn gc : Nat → Nat) (hC : ax_Cls G a) (hgn : ∀ g, g < 6 → I (a + 1 + 1) g = nI (gn g) ∧ gn g ≤ 3) (hgc : ∀ g, g < 6 → I (a + 1 + 2) g = nI (gc g) ∧ gc g ≤ 4) (hf_j : j < 8) (hg_j : I (a + 1 + 4) j = nI g) (hl_j : g < 6) (hh_j : I (a + 1 + 5) j = nI h) (hm_j : h < 6) (hd : 2 ≤ d) : ax_Con l D T o yX10_isCell cX10_isCell 4 (some .boolean) d 0 0 [.ref a, .int (nI j), .int x, .int y] G I L (fun zz G' I' L' => zz = some (.int (ax_b (ax_icl I a g h x y))) ∧ G = G' ∧ I = I' ∧ L = L') := by
  refine ax_enter (by decide +kernel) (Nat.le_of_ble_eq_true rfl) ?_
  intro p_ e_ s_ m_ args_ below_ meth_ c_ C _
  refine x_lvs (lv' := [(0, .ref a), (1, .int (nI j)), (2, .int x), (3, .int y)]) rfl ?_
  refine x_aload_n C (dk ddX10_isCell 0 rfl) rfl ?_
  refine x_iload_n C (dk ddX10_isCell 1 rfl) rfl ?_
  refine x_callV C (ci := 10) (As := [.int (nI j)]) (k_X10_isMap l D T o (d - 1) G I L a j hC (by omega) (by omega)) mlX10_218 rfl rfl (by have h_ := hC.1; omega) hC.fld.1 ⟨by show d - 1 + 1 ≤ d; omega, by show 40 * (d - 1 + 1) ≤ 40 * d; omega⟩ ⟨Nat.le_refl _, Nat.le_refl _⟩ rfl (Nat.le_of_ble_eq_true rfl) (dk ddX10_isCell 2 rfl) ?_
  rintro v_ G_ I_ L_ ⟨rfl, rfl, rfl, rfl⟩
  rw [show (!decide (I (a + 1 + 4) j = -1)) = true from by rw [show I (a + 1 + 4) j = nI g from (by repeat (first | exact ax_u_at _ _ _ _ | exact hg_j | rw [ax_u_ne (by omega)] | rw [ax_u_nj (by decide)] | rw [ax_sc_ne (by omega)] | rw [ax_rem_ne (by omega) (by omega)] | unfold ax_ldI | unfold ax_woI | unfold ax_rxI | unfold ax_frI0 | unfold ax_frI1 | unfold ax_frI2 | rw [hI_ _ (by omega)] | rw [hN_ (by omega)]))]; exact ax_hm hl_j]
  refine x_if_eq_b C (tgt := 46) (dk ddX10_isCell 3 rfl) (by decide) (fun h_ => absurd h_ (by decide)) (fun _ => ?_)
  refine x_aload_n C (dk ddX10_isCell 4 rfl) rfl ?_
  refine x_aload_n C (dk ddX10_isCell 5 rfl) rfl ?_
  refine x_getr C flX10_10 rfl (by have h_ := hC.1; omega) hC.fld.1 (show ax_R G a 0 = some (a + 1) from hC.fld.2.2 (0, 1) (by decide)) (dk ddX10_isCell 6 rfl) ?_
  refine x_getr C flX10_221 rfl (by have h_ := hC.state.1; omega) (show ax_K G (a + 1) = 8 + 7 from (hC.state.2 0 _ rfl).1) (show ax_R G (a + 1) 3 = some (a + 1 + 4) from (hC.state.2 0 _ rfl).2.2 (3, 4) (by decide)) (dk ddX10_isCell 7 rfl) ?_
  refine x_iload_n C (dk ddX10_isCell 8 rfl) rfl ?_
  refine x_iald_n C (by have h_ := hC.state.1; omega) (show ax_K G (a + 1 + 4) = 0 from (hC.state.2 4 _ rfl).1) (show ax_N G (a + 1 + 4) = 8 from (hC.state.2 4 _ rfl).2.1) (by omega) (by decide) (dk ddX10_isCell 9 rfl) ?_
  rw [show (I (a + 1 + 4) j) = nI g from (by repeat (first | exact ax_u_at _ _ _ _ | exact hg_j | rw [ax_u_ne (by omega)] | rw [ax_u_nj (by decide)] | rw [ax_sc_ne (by omega)] | rw [ax_rem_ne (by omega) (by omega)] | unfold ax_ldI | unfold ax_woI | unfold ax_rxI | unfold ax_frI0 | unfold ax_frI1 | unfold ax_frI2 | rw [hI_ _ (by omega)] | rw [hN_ (by omega)]))]
  refine x_iload_n C (dk ddX10_isCell 10 rfl) rfl ?_
  refine x_callV C (ci := 10) (As := [.int (nI g), .int x]) (k_X10_isPlace l D T o (d - 1) G I L a g x hC (by omega) (by omega)) mlX10_145 rfl rfl (by have h_ := hC.1; omega) hC.fld.1 ⟨by show d - 1 + 1 ≤ d; omega, by show 40 * (d - 1 + 1) ≤ 40 * d; omega⟩ ⟨Nat.le_refl _, Nat.le_refl _⟩ rfl (Nat.le_of_ble_eq_true rfl) (dk ddX10_isCell 11 rfl) ?_
  rintro v_ G_ I_ L_ ⟨rfl, rfl, rfl, rfl⟩
  refine x_if_eq_b C (tgt := 46) (dk ddX10_isCell 12 rfl) (by decide) (fun h22 => ?_) (fun h22 => ?_)
  · refine x_iconst C (v := nI 0) (dk ddX10_isCell 24 rfl) (by decide) ?_
    exact x_zret C rfl rfl ⟨(by unfold ax_icl; rw [if_neg (Bool.eq_false_iff.mp h22)] <;> rfl), rfl, rfl, rfl⟩ rfl rfl (dk ddX10_isCell 25 rfl)
  · refine x_aload_n C (dk ddX10_isCell 13 rfl) rfl ?_
    refine x_aload_n C (dk ddX10_isCell 14 rfl) rfl ?_
    refine x_getr C flX10_10 rfl (by have h_ := hC.1; omega) hC.fld.1 (show ax_R G a 0 = some (a + 1) from hC.fld.2.2 (0, 1) (by decide)) (dk ddX10_isCell 15 rfl) ?_
    refine x_getr C flX10_224 rfl (by have h_ := hC.state.1; omega) (show ax_K G (a + 1) = 8 + 7 from (hC.state.2 0 _ rfl).1) (show ax_R G (a + 1) 4 = some (a + 1 + 5) from (hC.state.2 0 _ rfl).2.2 (4, 5) (by decide)) (dk ddX10_isCell 16 rfl) ?_
    refine x_iload_n C (dk ddX10_isCell 17 rfl) rfl ?_
    refine x_iald_n C (by have h_ := hC.state.1; omega) (show ax_K G (a + 1 + 5) = 0 from (hC.state.2 5 _ rfl).1) (show ax_N G (a + 1 + 5) = 8 from (hC.state.2 5 _ rfl).2.1) (by omega) (by decide) (dk ddX10_isCell 18 rfl) ?_
    rw [show (I (a + 1 + 5) j) = nI h from (by repeat (first | exact ax_u_at _ _ _ _ | exact hh_j | rw [ax_u_ne (by omega)] | rw [ax_u_nj (by decide)] | rw [ax_sc_ne (by omega)] | rw [ax_rem_ne (by omega) (by omega)] | unfold ax_ldI | unfold ax_woI | unfold ax_rxI | unfold ax_frI0 | unfold ax_frI1 | unfold ax_frI2 | rw [hI_ _ (by omega)] | rw [hN_ (by omega)]))]
    refine x_iload_n C (dk ddX10_isCell 19 rfl) rfl ?_
    refine x_callV C (ci := 10) (As := [.int (nI h), .int y]) (k_X10_isPlace l D T o (d - 1) G I L a h y hC (by omega) (by omega)) mlX10_145 rfl rfl (by have h_ := hC.1; omega) hC.fld.1 ⟨by show d - 1 + 1 ≤ d; omega, by show 40 * (d - 1 + 1) ≤ 40 * d; omega⟩ ⟨Nat.le_refl _, Nat.le_refl _⟩ rfl (Nat.le_of_ble_eq_true rfl) (dk ddX10_isCell 20 rfl) ?_
    rintro v_ G_ I_ L_ ⟨rfl, rfl, rfl, rfl⟩
    refine x_if_eq_b C (tgt := 46) (dk ddX10_isCell 21 rfl) (by decide) (fun h39 => ?_) (fun h39 => ?_)
    · refine x_iconst C (v := nI 0) (dk ddX10_isCell 24 rfl) (by decide) ?_
      exact x_zret C rfl rfl ⟨(by unfold ax_icl; rw [if_pos h22, if_neg (Bool.eq_false_iff.mp h39)] <;> rfl), rfl, rfl, rfl⟩ rfl rfl (dk ddX10_isCell 25 rfl)
    · refine x_iconst C (v := nI 1) (dk ddX10_isCell 22 rfl) (by decide) ?_
      refine x_goto C (tgt := 47) (dk ddX10_isCell 23 rfl) (by decide) ?_
      exact x_zret C rfl rfl ⟨(by unfold ax_icl; rw [if_pos h22, if_pos h39] <;> rfl), rfl, rfl, rfl⟩ rfl rfl (dk ddX10_isCell 25 rfl)
set_option maxRecDepth 20000 in
/-- at of no map -/
theorem k_X10_at_no (l : Launch) (D : va_G) (T : Nat → ClassId) (o d : Nat) (G : ax_G) (I : ax_I) (L : ax_L) (a : Nat) (f x y : Int32) (hC : ax_Cls G a) (hbad : (ax_in3 f.toInt64 0 7 && !decide (I (a + 1 + 4) f.toNatClampNeg = -1)) = false) (hd : 3 ≤ d) : ax_Con l D T o yX10_at cX10_at 4 (some .int) d 0 0 [.ref a, .int f, .int x, .int y] G I L (fun zz G' I' L' => zz = some (.int ((-1))) ∧ G = G' ∧ I = I' ∧ L = L') := by
  refine ax_enter (by decide +kernel) (Nat.le_of_ble_eq_true rfl) ?_
  intro p_ e_ s_ m_ args_ below_ meth_ c_ C _
  refine x_lvs (lv' := [(0, .ref a), (1, .int f), (2, .int x), (3, .int y)]) rfl ?_
  refine x_aload_n C (dk ddX10_at 0 rfl) rfl ?_
  refine x_iload_n C (dk ddX10_at 1 rfl) rfl ?_
  refine x_iload_n C (dk ddX10_at 2 rfl) rfl ?_
  refine x_iload_n C (dk ddX10_at 3 rfl) rfl ?_
  refine x_callV C (ci := 10) (As := [.int f, .int x, .int y]) (k_X10_isCell_no l D T o (d - 1) G I L a f x y hC hbad (by omega)) mlX10_212 rfl rfl (by have h_ := hC.1; omega) hC.fld.1 ⟨by show d - 1 + 1 ≤ d; omega, by show 40 * (d - 1 + 1) ≤ 40 * d; omega⟩ ⟨Nat.le_refl _, Nat.le_refl _⟩ rfl (Nat.le_of_ble_eq_true rfl) (dk ddX10_at 4 rfl) ?_
  rintro v_ G_ I_ L_ ⟨rfl, rfl, rfl, rfl⟩
  refine x_if_ne_b C (tgt := 12) (dk ddX10_at 5 rfl) (by decide) (fun h_ => absurd h_ (by decide)) (fun _ => ?_)
  refine x_iconst C (v := (-1)) (dk ddX10_at 6 rfl) (by decide) ?_
  exact x_iret C rfl ⟨rfl, rfl, rfl, rfl⟩ rfl rfl (dk ddX10_at 7 rfl)
set_option maxRecDepth 20000 in
/-- at of no place -/
theorem k_X10_at_out (l : Launch) (D : va_G) (T : Nat → ClassId) (o d : Nat) (G : ax_G) (I : ax_I) (L : ax_L) (a j g h : Nat) (x y : Int32) (gn gc : Nat → Nat) (hC : ax_Cls G a) (hgn : ∀ g, g < 6 → I (a + 1 + 1) g = nI (gn g) ∧ gn g ≤ 3) (hgc : ∀ g, g < 6 → I (a + 1 + 2) g = nI (gc g) ∧ gc g ≤ 4) (hf_j : j < 8) (hg_j : I (a + 1 + 4) j = nI g) (hl_j : g < 6) (hh_j : I (a + 1 + 5) j = nI h) (hm_j : h < 6) (hbad : ax_icl I a g h x y = false) (hd : 3 ≤ d) : ax_Con l D T o yX10_at cX10_at 4 (some .int) d 0 0 [.ref a, .int (nI j), .int x, .int y] G I L (fun zz G' I' L' => zz = some (.int ((-1))) ∧ G = G' ∧ I = I' ∧ L = L') := by
  refine ax_enter (by decide +kernel) (Nat.le_of_ble_eq_true rfl) ?_
  intro p_ e_ s_ m_ args_ below_ meth_ c_ C _
  refine x_lvs (lv' := [(0, .ref a), (1, .int (nI j)), (2, .int x), (3, .int y)]) rfl ?_
  refine x_aload_n C (dk ddX10_at 0 rfl) rfl ?_
  refine x_iload_n C (dk ddX10_at 1 rfl) rfl ?_
  refine x_iload_n C (dk ddX10_at 2 rfl) rfl ?_
  refine x_iload_n C (dk ddX10_at 3 rfl) rfl ?_
  refine x_callV C (ci := 10) (As := [.int (nI j), .int x, .int y]) (k_X10_isCell l D T o (d - 1) G I L a j g h x y gn gc hC hgn hgc hf_j hg_j hl_j hh_j hm_j (by omega)) mlX10_212 rfl rfl (by have h_ := hC.1; omega) hC.fld.1 ⟨by show d - 1 + 1 ≤ d; omega, by show 40 * (d - 1 + 1) ≤ 40 * d; omega⟩ ⟨Nat.le_refl _, Nat.le_refl _⟩ rfl (Nat.le_of_ble_eq_true rfl) (dk ddX10_at 4 rfl) ?_
  rintro v_ G_ I_ L_ ⟨rfl, rfl, rfl, rfl⟩
  rw [show (ax_icl I a g h x y) = false from hbad]
  refine x_if_ne_b C (tgt := 12) (dk ddX10_at 5 rfl) (by decide) (fun h_ => absurd h_ (by decide)) (fun _ => ?_)
  refine x_iconst C (v := (-1)) (dk ddX10_at 6 rfl) (by decide) ?_
  exact x_iret C rfl ⟨rfl, rfl, rfl, rfl⟩ rfl rfl (dk ddX10_at 7 rfl)
set_option maxRecDepth 20000 in
/-- at(j, x, y) -/
theorem k_X10_at (l : Launch) (D : va_G) (T : Nat → ClassId) (o d : Nat) (G : ax_G) (I : ax_I) (L : ax_L) (a j g h x y : Nat) (gn gc : Nat → Nat) (hC : ax_Cls G a) (hgn : ∀ g, g < 6 → I (a + 1 + 1) g = nI (gn g) ∧ gn g ≤ 3) (hgc : ∀ g, g < 6 → I (a + 1 + 2) g = nI (gc g) ∧ gc g ≤ 4) (hf_j : j < 8) (hg_j : I (a + 1 + 4) j = nI g) (hl_j : g < 6) (hh_j : I (a + 1 + 5) j = nI h) (hm_j : h < 6) (hx : x < 3) (hy : y < 3) (hcl : ax_icl I a g h (nI x) (nI y) = true) (hd : 3 ≤ d) : ax_Con l D T o yX10_at cX10_at 4 (some .int) d 0 0 [.ref a, .int (nI j), .int (nI x), .int (nI y)] G I L (fun zz G' I' L' => zz = some (.int ((nI 1000) + (I (a + 1 + 6) (9 * j + 3 * x + y)))) ∧ G = G' ∧ I = I' ∧ L = L') := by
  refine ax_enter (by decide +kernel) (Nat.le_of_ble_eq_true rfl) ?_
  intro p_ e_ s_ m_ args_ below_ meth_ c_ C _
  refine x_lvs (lv' := [(0, .ref a), (1, .int (nI j)), (2, .int (nI x)), (3, .int (nI y))]) rfl ?_
  refine x_aload_n C (dk ddX10_at 0 rfl) rfl ?_
  refine x_iload_n C (dk ddX10_at 1 rfl) rfl ?_
  refine x_iload_n C (dk ddX10_at 2 rfl) rfl ?_
  refine x_iload_n C (dk ddX10_at 3 rfl) rfl ?_
  refine x_callV C (ci := 10) (As := [.int (nI j), .int (nI x), .int (nI y)]) (k_X10_isCell l D T o (d - 1) G I L a j g h (nI x) (nI y) gn gc hC hgn hgc hf_j hg_j hl_j hh_j hm_j (by omega)) mlX10_212 rfl rfl (by have h_ := hC.1; omega) hC.fld.1 ⟨by show d - 1 + 1 ≤ d; omega, by show 40 * (d - 1 + 1) ≤ 40 * d; omega⟩ ⟨Nat.le_refl _, Nat.le_refl _⟩ rfl (Nat.le_of_ble_eq_true rfl) (dk ddX10_at 4 rfl) ?_
  rintro v_ G_ I_ L_ ⟨rfl, rfl, rfl, rfl⟩
  rw [show (ax_icl I a g h (nI x) (nI y)) = true from hcl]
  refine x_if_ne_b C (tgt := 12) (dk ddX10_at 5 rfl) (by decide) (fun _ => ?_) (fun h_ => absurd h_ (by decide))
  refine x_sipush C (v := nI 1000) (dk ddX10_at 8 rfl) (by decide) ?_
  refine x_aload_n C (dk ddX10_at 9 rfl) rfl ?_
  refine x_getr C flX10_10 rfl (by have h_ := hC.1; omega) hC.fld.1 (show ax_R G a 0 = some (a + 1) from hC.fld.2.2 (0, 1) (by decide)) (dk ddX10_at 10 rfl) ?_
  refine x_getr C flX10_215 rfl (by have h_ := hC.state.1; omega) (show ax_K G (a + 1) = 8 + 7 from (hC.state.2 0 _ rfl).1) (show ax_R G (a + 1) 5 = some (a + 1 + 6) from (hC.state.2 0 _ rfl).2.2 (5, 6) (by decide)) (dk ddX10_at 11 rfl) ?_
  refine x_bipush C (v := nI 9) (dk ddX10_at 12 rfl) (by decide) ?_
  refine x_iload_n C (dk ddX10_at 13 rfl) rfl ?_
  refine x_imul_n C (dk ddX10_at 14 rfl) ?_
  refine x_iconst C (v := nI 3) (dk ddX10_at 15 rfl) (by decide) ?_
  refine x_iload_n C (dk ddX10_at 16 rfl) rfl ?_
  refine x_imul_n C (dk ddX10_at 17 rfl) ?_
  refine x_iadd_n C (dk ddX10_at 18 rfl) ?_
  refine x_iload_n C (dk ddX10_at 19 rfl) rfl ?_
  refine x_iadd_n C (dk ddX10_at 20 rfl) ?_
  refine x_iald_n C (by have h_ := hC.state.1; omega) (show ax_K G (a + 1 + 6) = 0 from (hC.state.2 6 _ rfl).1) (show ax_N G (a + 1 + 6) = 72 from (hC.state.2 6 _ rfl).2.1) (by omega) (by decide) (dk ddX10_at 21 rfl) ?_
  refine x_iadd C (dk ddX10_at 22 rfl) ?_
  exact x_iret C rfl ⟨rfl, rfl, rfl, rfl⟩ rfl rfl (dk ddX10_at 23 rfl)
set_option maxRecDepth 20000 in
/-- entry of no map -/
theorem k_X10_entry_no (l : Launch) (D : va_G) (T : Nat → ClassId) (o d : Nat) (G : ax_G) (I : ax_I) (L : ax_L) (a : Nat) (f x y v : Int32) (hC : ax_Cls G a) (hbad : (ax_in3 f.toInt64 0 7 && !decide (I (a + 1 + 4) f.toNatClampNeg = -1)) = false) (hd : 3 ≤ d) : ax_Con l D T o yX10_entry cX10_entry 7 (some .int) d 0 0 [.ref a, .int f, .int x, .int y, .int v] G I L (fun zz G' I' L' => zz = some (.int ((-1))) ∧ G = G' ∧ I = I' ∧ L = L') := by
  refine ax_enter (by decide +kernel) (Nat.le_of_ble_eq_true rfl) ?_
  intro p_ e_ s_ m_ args_ below_ meth_ c_ C _
  refine x_lvs (lv' := [(0, .ref a), (1, .int f), (2, .int x), (3, .int y), (4, .int v)]) rfl ?_
  refine x_aload_n C (dk ddX10_entry 0 rfl) rfl ?_
  refine x_iload_n C (dk ddX10_entry 1 rfl) rfl ?_
  refine x_iload_n C (dk ddX10_entry 2 rfl) rfl ?_
  refine x_iload_n C (dk ddX10_entry 3 rfl) rfl ?_
  refine x_callV C (ci := 10) (As := [.int f, .int x, .int y]) (k_X10_isCell_no l D T o (d - 1) G I L a f x y hC hbad (by omega)) mlX10_212 rfl rfl (by have h_ := hC.1; omega) hC.fld.1 ⟨by show d - 1 + 1 ≤ d; omega, by show 40 * (d - 1 + 1) ≤ 40 * d; omega⟩ ⟨Nat.le_refl _, Nat.le_refl _⟩ rfl (Nat.le_of_ble_eq_true rfl) (dk ddX10_entry 4 rfl) ?_
  rintro v_ G_ I_ L_ ⟨rfl, rfl, rfl, rfl⟩
  refine x_if_eq_b C (tgt := 24) (dk ddX10_entry 5 rfl) (by decide) (fun _ => ?_) (fun h_ => absurd h_ (by decide))
  refine x_iconst C (v := (-1)) (dk ddX10_entry 12 rfl) (by decide) ?_
  exact x_iret C rfl ⟨rfl, rfl, rfl, rfl⟩ rfl rfl (dk ddX10_entry 13 rfl)
set_option maxRecDepth 20000 in
/-- entry, refused -/
theorem k_X10_entry_bad (l : Launch) (D : va_G) (T : Nat → ClassId) (o d : Nat) (G : ax_G) (I : ax_I) (L : ax_L) (a j g h : Nat) (x y v : Int32) (gn gc : Nat → Nat) (hC : ax_Cls G a) (hgn : ∀ g, g < 6 → I (a + 1 + 1) g = nI (gn g) ∧ gn g ≤ 3) (hgc : ∀ g, g < 6 → I (a + 1 + 2) g = nI (gc g) ∧ gc g ≤ 4) (hf_j : j < 8) (hg_j : I (a + 1 + 4) j = nI g) (hl_j : g < 6) (hh_j : I (a + 1 + 5) j = nI h) (hm_j : h < 6) (hbad : ax_icl I a g h x y = false ∨ v < -9 ∨ nI 9 < v) (hd : 3 ≤ d) : ax_Con l D T o yX10_entry cX10_entry 7 (some .int) d 0 0 [.ref a, .int (nI j), .int x, .int y, .int v] G I L (fun zz G' I' L' => zz = some (.int ((-1))) ∧ G = G' ∧ I = I' ∧ L = L') := by
  refine ax_enter (by decide +kernel) (Nat.le_of_ble_eq_true rfl) ?_
  intro p_ e_ s_ m_ args_ below_ meth_ c_ C _
  refine x_lvs (lv' := [(0, .ref a), (1, .int (nI j)), (2, .int x), (3, .int y), (4, .int v)]) rfl ?_
  refine x_aload_n C (dk ddX10_entry 0 rfl) rfl ?_
  refine x_iload_n C (dk ddX10_entry 1 rfl) rfl ?_
  refine x_iload_n C (dk ddX10_entry 2 rfl) rfl ?_
  refine x_iload_n C (dk ddX10_entry 3 rfl) rfl ?_
  refine x_callV C (ci := 10) (As := [.int (nI j), .int x, .int y]) (k_X10_isCell l D T o (d - 1) G I L a j g h x y gn gc hC hgn hgc hf_j hg_j hl_j hh_j hm_j (by omega)) mlX10_212 rfl rfl (by have h_ := hC.1; omega) hC.fld.1 ⟨by show d - 1 + 1 ≤ d; omega, by show 40 * (d - 1 + 1) ≤ 40 * d; omega⟩ ⟨Nat.le_refl _, Nat.le_refl _⟩ rfl (Nat.le_of_ble_eq_true rfl) (dk ddX10_entry 4 rfl) ?_
  rintro v_ G_ I_ L_ ⟨rfl, rfl, rfl, rfl⟩
  refine x_if_eq_b C (tgt := 24) (dk ddX10_entry 5 rfl) (by decide) (fun h7 => ?_) (fun h7 => ?_)
  · refine x_iconst C (v := (-1)) (dk ddX10_entry 12 rfl) (by decide) ?_
    exact x_iret C rfl ⟨rfl, rfl, rfl, rfl⟩ rfl rfl (dk ddX10_entry 13 rfl)
  · refine x_iload C (dk ddX10_entry 6 rfl) rfl ?_
    refine x_bipush C (v := (-9)) (dk ddX10_entry 7 rfl) (by decide) ?_
    refine x_icmp_lt C (tgt := 24) (dk ddX10_entry 8 rfl) (by decide) (fun h14 => ?_) (fun h14 => ?_)
    · have h14c := Int32.not_le.mpr h14
      refine x_iconst C (v := (-1)) (dk ddX10_entry 12 rfl) (by decide) ?_
      exact x_iret C rfl ⟨rfl, rfl, rfl, rfl⟩ rfl rfl (dk ddX10_entry 13 rfl)
    · have h14c := Int32.not_lt.mp h14
      refine x_iload C (dk ddX10_entry 9 rfl) rfl ?_
      refine x_bipush C (v := nI 9) (dk ddX10_entry 10 rfl) (by decide) ?_
      refine x_icmp_le C (tgt := 26) (dk ddX10_entry 11 rfl) (by decide) (fun h21 => ?_) (fun h21 => ?_)
      · have h21c := Int32.not_lt.mpr h21
        exfalso
        rcases hbad with hq_ | hq_ | hq_ <;> first | exact absurd hq_ (by assumption) | (simp_all; done)
      · have h21c := Int32.not_le.mp h21
        refine x_iconst C (v := (-1)) (dk ddX10_entry 12 rfl) (by decide) ?_
        exact x_iret C rfl ⟨rfl, rfl, rfl, rfl⟩ rfl rfl (dk ddX10_entry 13 rfl)
set_option maxRecDepth 20000 in
/-- entry(j, x, y, v) -/
theorem k_X10_entry (l : Launch) (D : va_G) (T : Nat → ClassId) (o d : Nat) (G : ax_G) (I : ax_I) (L : ax_L) (a c k j g h x y : Nat) (v : Int32) (gn gc : Nat → Nat) (hC : ax_Cls G a) (hc : I (a + 29) 1 = nI c) (hk : I (a + 29) 2 = nI k) (hc2 : c < 20) (hk2 : k ≤ 20) (hgn : ∀ g, g < 6 → I (a + 1 + 1) g = nI (gn g) ∧ gn g ≤ 3) (hgc : ∀ g, g < 6 → I (a + 1 + 2) g = nI (gc g) ∧ gc g ≤ 4) (hf_j : j < 8) (hg_j : I (a + 1 + 4) j = nI g) (hl_j : g < 6) (hh_j : I (a + 1 + 5) j = nI h) (hm_j : h < 6) (hx : x < 3) (hy : y < 3) (hcl : ax_icl I a g h (nI x) (nI y) = true) (hv1 : ¬ v < -9) (hv2 : ¬ nI 9 < v) (hd : 4 ≤ d) : ax_Con l D T o yX10_entry cX10_entry 7 (some .int) d 0 0 [.ref a, .int (nI j), .int (nI x), .int (nI y), .int v] G I L (fun zz G' I' L' => zz = some (.int ((nI 1000) + ((ax_rem a c k I) (a + 1 + 6) (9 * j + 3 * x + y)))) ∧ G = G' ∧ (ax_u (ax_rem a c k I) (a + 1 + 6) (9 * j + 3 * x + y) v) = I' ∧ L = L') := by
  refine ax_enter (by decide +kernel) (Nat.le_of_ble_eq_true rfl) ?_
  intro p_ e_ s_ m_ args_ below_ meth_ c_ C _
  refine x_lvs (lv' := [(0, .ref a), (1, .int (nI j)), (2, .int (nI x)), (3, .int (nI y)), (4, .int v)]) rfl ?_
  refine x_aload_n C (dk ddX10_entry 0 rfl) rfl ?_
  refine x_iload_n C (dk ddX10_entry 1 rfl) rfl ?_
  refine x_iload_n C (dk ddX10_entry 2 rfl) rfl ?_
  refine x_iload_n C (dk ddX10_entry 3 rfl) rfl ?_
  refine x_callV C (ci := 10) (As := [.int (nI j), .int (nI x), .int (nI y)]) (k_X10_isCell l D T o (d - 1) G I L a j g h (nI x) (nI y) gn gc hC hgn hgc hf_j hg_j hl_j hh_j hm_j (by omega)) mlX10_212 rfl rfl (by have h_ := hC.1; omega) hC.fld.1 ⟨by show d - 1 + 1 ≤ d; omega, by show 40 * (d - 1 + 1) ≤ 40 * d; omega⟩ ⟨Nat.le_refl _, Nat.le_refl _⟩ rfl (Nat.le_of_ble_eq_true rfl) (dk ddX10_entry 4 rfl) ?_
  rintro v_ G_ I_ L_ ⟨rfl, rfl, rfl, rfl⟩
  rw [show (ax_icl I a g h (nI x) (nI y)) = true from hcl]
  refine x_if_eq_b C (tgt := 24) (dk ddX10_entry 5 rfl) (by decide) (fun h_ => absurd h_ (by decide)) (fun _ => ?_)
  refine x_iload C (dk ddX10_entry 6 rfl) rfl ?_
  refine x_bipush C (v := (-9)) (dk ddX10_entry 7 rfl) (by decide) ?_
  refine x_icmp_lt C (tgt := 24) (dk ddX10_entry 8 rfl) (by decide) (fun h14 => ?_) (fun h14 => ?_)
  · have h14c := Int32.not_le.mpr h14
    exfalso
    exact hv1 h14
  · have h14c := Int32.not_lt.mp h14
    refine x_iload C (dk ddX10_entry 9 rfl) rfl ?_
    refine x_bipush C (v := nI 9) (dk ddX10_entry 10 rfl) (by decide) ?_
    refine x_icmp_le C (tgt := 26) (dk ddX10_entry 11 rfl) (by decide) (fun h21 => ?_) (fun h21 => ?_)
    · have h21c := Int32.not_lt.mpr h21
      refine x_aload_n C (dk ddX10_entry 14 rfl) rfl ?_
      refine x_getr C flX10_26 rfl (by have h_ := hC.1; omega) hC.fld.1 (show ax_R G a 3 = some (a + 29) from hC.fld.2.2 (3, 29) (by decide)) (dk ddX10_entry 15 rfl) ?_
      refine x_aload_n C (dk ddX10_entry 16 rfl) rfl ?_
      refine x_getr C flX10_10 rfl (by have h_ := hC.1; omega) hC.fld.1 (show ax_R G a 0 = some (a + 1) from hC.fld.2.2 (0, 1) (by decide)) (dk ddX10_entry 17 rfl) ?_
      refine x_callV C (ci := 1) (As := [.ref (a + 1)]) (k_X1_rem l D T o (d - 1) G I L a c k hC hc hk hc2 hk2 (by omega)) mlX10_102 rfl rfl (by have h_ := hC.1; omega) (show ax_K G (a + 29) = 8 + 1 from (hC.history.2 0 _ rfl).1) ⟨by show d - 1 + 1 ≤ d; omega, by show 40 * (d - 1 + 1) ≤ 40 * d; omega⟩ ⟨Nat.le_refl _, Nat.le_refl _⟩ rfl (Nat.le_of_ble_eq_true rfl) (dk ddX10_entry 18 rfl) ?_
      rintro v_ G_ I_ L_ ⟨rfl, rfl, rfl, rfl⟩
      refine x_bipush C (v := nI 9) (dk ddX10_entry 19 rfl) (by decide) ?_
      refine x_iload_n C (dk ddX10_entry 20 rfl) rfl ?_
      refine x_imul_n C (dk ddX10_entry 21 rfl) ?_
      refine x_iconst C (v := nI 3) (dk ddX10_entry 22 rfl) (by decide) ?_
      refine x_iload_n C (dk ddX10_entry 23 rfl) rfl ?_
      refine x_imul_n C (dk ddX10_entry 24 rfl) ?_
      refine x_iadd_n C (dk ddX10_entry 25 rfl) ?_
      refine x_iload_n C (dk ddX10_entry 26 rfl) rfl ?_
      refine x_iadd_n C (dk ddX10_entry 27 rfl) ?_
      refine x_istore C (lv' := [(5, .int (nI (9 * j + 3 * x + y))), (0, .ref a), (1, .int (nI j)), (2, .int (nI x)), (3, .int (nI y)), (4, .int v)]) (dk ddX10_entry 28 rfl) (by decide) rfl ?_
      refine x_aload_n C (dk ddX10_entry 29 rfl) rfl ?_
      refine x_getr C flX10_10 rfl (by have h_ := hC.1; omega) hC.fld.1 (show ax_R G a 0 = some (a + 1) from hC.fld.2.2 (0, 1) (by decide)) (dk ddX10_entry 30 rfl) ?_
      refine x_getr C flX10_215 rfl (by have h_ := hC.state.1; omega) (show ax_K G (a + 1) = 8 + 7 from (hC.state.2 0 _ rfl).1) (show ax_R G (a + 1) 5 = some (a + 1 + 6) from (hC.state.2 0 _ rfl).2.2 (5, 6) (by decide)) (dk ddX10_entry 31 rfl) ?_
      refine x_iload C (dk ddX10_entry 32 rfl) rfl ?_
      refine x_iald_n C (by have h_ := hC.state.1; omega) (show ax_K G (a + 1 + 6) = 0 from (hC.state.2 6 _ rfl).1) (show ax_N G (a + 1 + 6) = 72 from (hC.state.2 6 _ rfl).2.1) (by omega) (by decide) (dk ddX10_entry 33 rfl) ?_
      refine x_istore C (lv' := [(6, .int ((ax_rem a c k I) (a + 1 + 6) (9 * j + 3 * x + y))), (5, .int (nI (9 * j + 3 * x + y))), (0, .ref a), (1, .int (nI j)), (2, .int (nI x)), (3, .int (nI y)), (4, .int v)]) (dk ddX10_entry 34 rfl) (by decide) rfl ?_
      refine x_aload_n C (dk ddX10_entry 35 rfl) rfl ?_
      refine x_getr C flX10_10 rfl (by have h_ := hC.1; omega) hC.fld.1 (show ax_R G a 0 = some (a + 1) from hC.fld.2.2 (0, 1) (by decide)) (dk ddX10_entry 36 rfl) ?_
      refine x_getr C flX10_215 rfl (by have h_ := hC.state.1; omega) (show ax_K G (a + 1) = 8 + 7 from (hC.state.2 0 _ rfl).1) (show ax_R G (a + 1) 5 = some (a + 1 + 6) from (hC.state.2 0 _ rfl).2.2 (5, 6) (by decide)) (dk ddX10_entry 37 rfl) ?_
      refine x_iload C (dk ddX10_entry 38 rfl) rfl ?_
      refine x_iload C (dk ddX10_entry 39 rfl) rfl ?_
      refine x_iast_n C (by have h_ := hC.state.1; omega) (show ax_K G (a + 1 + 6) = 0 from (hC.state.2 6 _ rfl).1) (show ax_N G (a + 1 + 6) = 72 from (hC.state.2 6 _ rfl).2.1) (by omega) (by decide) (dk ddX10_entry 40 rfl) ?_
      refine x_sipush C (v := nI 1000) (dk ddX10_entry 41 rfl) (by decide) ?_
      refine x_iload C (dk ddX10_entry 42 rfl) rfl ?_
      refine x_iadd C (dk ddX10_entry 43 rfl) ?_
      exact x_iret C rfl ⟨rfl, rfl, rfl, rfl⟩ rfl rfl (dk ddX10_entry 44 rfl)
    · have h21c := Int32.not_le.mp h21
      exfalso
      exact hv2 (Int32.not_le.mp h21)
set_option maxRecDepth 20000 in
/-- map, refused -/
theorem k_X10_map_bad (l : Launch) (D : va_G) (T : Nat → ClassId) (o d : Nat) (G : ax_G) (I : ax_I) (L : ax_L) (a : Nat) (f g h : Int32) (hC : ax_Cls G a) (hbad : ax_rng f 8 = false ∨ ax_rng g 6 = false ∨ ax_rng h 6 = false) (hd : 3 ≤ d) : ax_Con l D T o yX10_map cX10_map 4 (some .int) d 0 0 [.ref a, .int f, .int g, .int h] G I L (fun zz G' I' L' => zz = some (.int ((-1))) ∧ G = G' ∧ I = I' ∧ L = L') := by
  refine ax_enter (by decide +kernel) (Nat.le_of_ble_eq_true rfl) ?_
  intro p_ e_ s_ m_ args_ below_ meth_ c_ C _
  refine x_lvs (lv' := [(0, .ref a), (1, .int f), (2, .int g), (3, .int h)]) rfl ?_
  refine x_iload_n C (dk ddX10_map 0 rfl) rfl ?_
  refine x_callS C (As := [.int f]) (k_X10_isMapNumber l D T o (d - 1) G I L f) mlX10_205 ⟨by show d - 1 + 1 ≤ d; omega, by show 40 * (d - 1 + 1) ≤ 40 * d; omega⟩ ⟨Nat.le_refl _, Nat.le_refl _⟩ rfl (Nat.le_of_ble_eq_true rfl) (dk ddX10_map 1 rfl) ?_
  rintro v_ G_ I_ L_ ⟨rfl, rfl, rfl, rfl⟩
  refine x_if_eq_b C (tgt := 21) (dk ddX10_map 2 rfl) (by decide) (fun h4 => ?_) (fun h4 => ?_)
  · refine x_iconst C (v := (-1)) (dk ddX10_map 9 rfl) (by decide) ?_
    exact x_iret C rfl ⟨rfl, rfl, rfl, rfl⟩ rfl rfl (dk ddX10_map 10 rfl)
  · refine x_iload_n C (dk ddX10_map 3 rfl) rfl ?_
    refine x_callS C (As := [.int g]) (k_X10_isGroup l D T o (d - 1) G I L g) mlX10_98 ⟨by show d - 1 + 1 ≤ d; omega, by show 40 * (d - 1 + 1) ≤ 40 * d; omega⟩ ⟨Nat.le_refl _, Nat.le_refl _⟩ rfl (Nat.le_of_ble_eq_true rfl) (dk ddX10_map 4 rfl) ?_
    rintro v_ G_ I_ L_ ⟨rfl, rfl, rfl, rfl⟩
    refine x_if_eq_b C (tgt := 21) (dk ddX10_map 5 rfl) (by decide) (fun h11 => ?_) (fun h11 => ?_)
    · refine x_iconst C (v := (-1)) (dk ddX10_map 9 rfl) (by decide) ?_
      exact x_iret C rfl ⟨rfl, rfl, rfl, rfl⟩ rfl rfl (dk ddX10_map 10 rfl)
    · refine x_iload_n C (dk ddX10_map 6 rfl) rfl ?_
      refine x_callS C (As := [.int h]) (k_X10_isGroup l D T o (d - 1) G I L h) mlX10_98 ⟨by show d - 1 + 1 ≤ d; omega, by show 40 * (d - 1 + 1) ≤ 40 * d; omega⟩ ⟨Nat.le_refl _, Nat.le_refl _⟩ rfl (Nat.le_of_ble_eq_true rfl) (dk ddX10_map 7 rfl) ?_
      rintro v_ G_ I_ L_ ⟨rfl, rfl, rfl, rfl⟩
      refine x_if_ne_b C (tgt := 23) (dk ddX10_map 8 rfl) (by decide) (fun h18 => ?_) (fun h18 => ?_)
      · exfalso
        rcases hbad with hq_ | hq_ | hq_ <;> first | exact absurd hq_ (by assumption) | (simp_all; done)
      · refine x_iconst C (v := (-1)) (dk ddX10_map 9 rfl) (by decide) ?_
        exact x_iret C rfl ⟨rfl, rfl, rfl, rfl⟩ rfl rfl (dk ddX10_map 10 rfl)
set_option maxRecDepth 20000 in
/-- map(j, g, h) -/
theorem k_X10_map (l : Launch) (D : va_G) (T : Nat → ClassId) (o d : Nat) (G : ax_G) (I : ax_I) (L : ax_L) (a c k j g h : Nat) (hC : ax_Cls G a) (hc : I (a + 29) 1 = nI c) (hk : I (a + 29) 2 = nI k) (hc2 : c < 20) (hk2 : k ≤ 20) (hj : j < 8) (hg : g < 6) (hh : h < 6) (hd : 4 ≤ d) : ax_Con l D T o yX10_map cX10_map 4 (some .int) d 0 0 [.ref a, .int (nI j), .int (nI g), .int (nI h)] G I L (fun zz G' I' L' => zz = some (.int (nI 1)) ∧ G = G' ∧ (ax_fl2 (a + 1 + 6) (9 * j) (nI 0) 9 (ax_u (ax_u (ax_rem a c k I) (a + 1 + 4) j (nI g)) (a + 1 + 5) j (nI h))) = I' ∧ L = L') := by
  refine ax_enter (by decide +kernel) (Nat.le_of_ble_eq_true rfl) ?_
  intro p_ e_ s_ m_ args_ below_ meth_ c_ C _
  refine x_lvs (lv' := [(0, .ref a), (1, .int (nI j)), (2, .int (nI g)), (3, .int (nI h))]) rfl ?_
  refine x_iload_n C (dk ddX10_map 0 rfl) rfl ?_
  refine x_callS C (As := [.int (nI j)]) (k_X10_isMapNumber l D T o (d - 1) G I L (nI j)) mlX10_205 ⟨by show d - 1 + 1 ≤ d; omega, by show 40 * (d - 1 + 1) ≤ 40 * d; omega⟩ ⟨Nat.le_refl _, Nat.le_refl _⟩ rfl (Nat.le_of_ble_eq_true rfl) (dk ddX10_map 1 rfl) ?_
  rintro v_ G_ I_ L_ ⟨rfl, rfl, rfl, rfl⟩
  rw [show (ax_rng (nI j) 8) = true from ax_rng_ok (h := 8) (by omega) (by decide)]
  refine x_if_eq_b C (tgt := 21) (dk ddX10_map 2 rfl) (by decide) (fun h_ => absurd h_ (by decide)) (fun _ => ?_)
  refine x_iload_n C (dk ddX10_map 3 rfl) rfl ?_
  refine x_callS C (As := [.int (nI g)]) (k_X10_isGroup l D T o (d - 1) G I L (nI g)) mlX10_98 ⟨by show d - 1 + 1 ≤ d; omega, by show 40 * (d - 1 + 1) ≤ 40 * d; omega⟩ ⟨Nat.le_refl _, Nat.le_refl _⟩ rfl (Nat.le_of_ble_eq_true rfl) (dk ddX10_map 4 rfl) ?_
  rintro v_ G_ I_ L_ ⟨rfl, rfl, rfl, rfl⟩
  rw [show (ax_rng (nI g) 6) = true from ax_rng_ok (h := 6) (by omega) (by decide)]
  refine x_if_eq_b C (tgt := 21) (dk ddX10_map 5 rfl) (by decide) (fun h_ => absurd h_ (by decide)) (fun _ => ?_)
  refine x_iload_n C (dk ddX10_map 6 rfl) rfl ?_
  refine x_callS C (As := [.int (nI h)]) (k_X10_isGroup l D T o (d - 1) G I L (nI h)) mlX10_98 ⟨by show d - 1 + 1 ≤ d; omega, by show 40 * (d - 1 + 1) ≤ 40 * d; omega⟩ ⟨Nat.le_refl _, Nat.le_refl _⟩ rfl (Nat.le_of_ble_eq_true rfl) (dk ddX10_map 7 rfl) ?_
  rintro v_ G_ I_ L_ ⟨rfl, rfl, rfl, rfl⟩
  rw [show (ax_rng (nI h) 6) = true from ax_rng_ok (h := 6) (by omega) (by decide)]
  refine x_if_ne_b C (tgt := 23) (dk ddX10_map 8 rfl) (by decide) (fun _ => ?_) (fun h_ => absurd h_ (by decide))
  refine x_aload_n C (dk ddX10_map 11 rfl) rfl ?_
  refine x_getr C flX10_26 rfl (by have h_ := hC.1; omega) hC.fld.1 (show ax_R G a 3 = some (a + 29) from hC.fld.2.2 (3, 29) (by decide)) (dk ddX10_map 12 rfl) ?_
  refine x_aload_n C (dk ddX10_map 13 rfl) rfl ?_
  refine x_getr C flX10_10 rfl (by have h_ := hC.1; omega) hC.fld.1 (show ax_R G a 0 = some (a + 1) from hC.fld.2.2 (0, 1) (by decide)) (dk ddX10_map 14 rfl) ?_
  refine x_callV C (ci := 1) (As := [.ref (a + 1)]) (k_X1_rem l D T o (d - 1) G I L a c k hC hc hk hc2 hk2 (by omega)) mlX10_102 rfl rfl (by have h_ := hC.1; omega) (show ax_K G (a + 29) = 8 + 1 from (hC.history.2 0 _ rfl).1) ⟨by show d - 1 + 1 ≤ d; omega, by show 40 * (d - 1 + 1) ≤ 40 * d; omega⟩ ⟨Nat.le_refl _, Nat.le_refl _⟩ rfl (Nat.le_of_ble_eq_true rfl) (dk ddX10_map 15 rfl) ?_
  rintro v_ G_ I_ L_ ⟨rfl, rfl, rfl, rfl⟩
  refine x_aload_n C (dk ddX10_map 16 rfl) rfl ?_
  refine x_getr C flX10_10 rfl (by have h_ := hC.1; omega) hC.fld.1 (show ax_R G a 0 = some (a + 1) from hC.fld.2.2 (0, 1) (by decide)) (dk ddX10_map 17 rfl) ?_
  refine x_iload_n C (dk ddX10_map 18 rfl) rfl ?_
  refine x_iload_n C (dk ddX10_map 19 rfl) rfl ?_
  refine x_iload_n C (dk ddX10_map 20 rfl) rfl ?_
  refine x_callV C (ci := 7) (As := [.int (nI j), .int (nI g), .int (nI h)]) (k_X7_renewMap l D T o (d - 1) G (ax_rem a c k I) L (a + 1) j (nI g) (nI h) hC.state (by omega) (by omega)) mlX10_208 rfl rfl (by have h_ := hC.state.1; omega) (show ax_K G (a + 1) = 8 + 7 from (hC.state.2 0 _ rfl).1) ⟨by show d - 1 + 1 ≤ d; omega, by show 40 * (d - 1 + 1) ≤ 40 * d; omega⟩ ⟨Nat.le_refl _, Nat.le_refl _⟩ rfl (Nat.le_of_ble_eq_true rfl) (dk ddX10_map 21 rfl) ?_
  rintro v_ G_ I_ L_ ⟨rfl, rfl, rfl, rfl⟩
  refine x_iconst C (v := nI 1) (dk ddX10_map 22 rfl) (by decide) ?_
  exact x_iret C rfl ⟨rfl, rfl, rfl, rfl⟩ rfl rfl (dk ddX10_map 23 rfl)
set_option maxRecDepth 20000 in
/-- relation, refused -/
theorem k_X10_relation_bad (l : Launch) (D : va_G) (T : Nat → ClassId) (o d : Nat) (G : ax_G) (I : ax_I) (L : ax_L) (a : Nat) (g : Int32) (x y z : Int32) (hC : ax_Cls G a) (hbad : ax_rng g 6 = false ∨ (ax_iw x.toInt64 (nI 9).toInt64 && ax_iw y.toInt64 (nI 9).toInt64 && ax_iw z.toInt64 (nI 9).toInt64) = false) (hd : 3 ≤ d) : ax_Con l D T o yX10_relation cX10_relation 5 (some .int) d 0 0 [.ref a, .int g, .int x, .int y, .int z] G I L (fun zz G' I' L' => zz = some (.int ((-1))) ∧ G = G' ∧ I = I' ∧ L = L') := by
  refine ax_enter (by decide +kernel) (Nat.le_of_ble_eq_true rfl) ?_
  intro p_ e_ s_ m_ args_ below_ meth_ c_ C _
  refine x_lvs (lv' := [(0, .ref a), (1, .int g), (2, .int x), (3, .int y), (4, .int z)]) rfl ?_
  refine x_iload_n C (dk ddX10_relation 0 rfl) rfl ?_
  refine x_callS C (As := [.int g]) (k_X10_isGroup l D T o (d - 1) G I L g) mlX10_98 ⟨by show d - 1 + 1 ≤ d; omega, by show 40 * (d - 1 + 1) ≤ 40 * d; omega⟩ ⟨Nat.le_refl _, Nat.le_refl _⟩ rfl (Nat.le_of_ble_eq_true rfl) (dk ddX10_relation 1 rfl) ?_
  rintro v_ G_ I_ L_ ⟨rfl, rfl, rfl, rfl⟩
  refine x_if_eq_b C (tgt := 19) (dk ddX10_relation 2 rfl) (by decide) (fun h4 => ?_) (fun h4 => ?_)
  · refine x_iconst C (v := (-1)) (dk ddX10_relation 9 rfl) (by decide) ?_
    exact x_iret C rfl ⟨rfl, rfl, rfl, rfl⟩ rfl rfl (dk ddX10_relation 10 rfl)
  · refine x_iload_n C (dk ddX10_relation 3 rfl) rfl ?_
    refine x_iload_n C (dk ddX10_relation 4 rfl) rfl ?_
    refine x_iload C (dk ddX10_relation 5 rfl) rfl ?_
    refine x_bipush C (v := nI 9) (dk ddX10_relation 6 rfl) (by decide) ?_
    refine x_callS C (As := [.int x, .int y, .int z, .int (nI 9)]) (k_X10_areWithin l D T o (d - 1) G I L x y z (nI 9) (by omega)) mlX10_114 ⟨by show d - 1 + 1 ≤ d; omega, by show 40 * (d - 1 + 1) ≤ 40 * d; omega⟩ ⟨Nat.le_refl _, Nat.le_refl _⟩ rfl (Nat.le_of_ble_eq_true rfl) (dk ddX10_relation 7 rfl) ?_
    rintro v_ G_ I_ L_ ⟨rfl, rfl, rfl, rfl⟩
    refine x_if_ne_b C (tgt := 21) (dk ddX10_relation 8 rfl) (by decide) (fun h16 => ?_) (fun h16 => ?_)
    · exfalso
      rcases hbad with hq_ | hq_ <;> first | exact absurd hq_ (by assumption) | (simp_all; done)
    · refine x_iconst C (v := (-1)) (dk ddX10_relation 9 rfl) (by decide) ?_
      exact x_iret C rfl ⟨rfl, rfl, rfl, rfl⟩ rfl rfl (dk ddX10_relation 10 rfl)
set_option maxRecDepth 20000 in
/-- relation, full -/
theorem k_X10_relation_full (l : Launch) (D : va_G) (T : Nat → ClassId) (o d : Nat) (G : ax_G) (I : ax_I) (L : ax_L) (a g : Nat) (gn gc : Nat → Nat) (x y z : Int32) (hC : ax_Cls G a) (hgn : ∀ g, g < 6 → I (a + 1 + 1) g = nI (gn g) ∧ gn g ≤ 3) (hgc : ∀ g, g < 6 → I (a + 1 + 2) g = nI (gc g) ∧ gc g ≤ 4) (hg : g < 6) (he : (ax_iw x.toInt64 (nI 9).toInt64 && ax_iw y.toInt64 (nI 9).toInt64 && ax_iw z.toInt64 (nI 9).toInt64) = true) (h4 : 4 ≤ gc g) (hd : 4 ≤ d) : ax_Con l D T o yX10_relation cX10_relation 5 (some .int) d 0 0 [.ref a, .int (nI g), .int x, .int y, .int z] G I L (fun zz G' I' L' => zz = some (.int ((-2))) ∧ G = G' ∧ I = I' ∧ L = L') := by
  refine ax_enter (by decide +kernel) (Nat.le_of_ble_eq_true rfl) ?_
  intro p_ e_ s_ m_ args_ below_ meth_ c_ C _
  refine x_lvs (lv' := [(0, .ref a), (1, .int (nI g)), (2, .int x), (3, .int y), (4, .int z)]) rfl ?_
  have hb2_ := (hgc g hg).2
  refine x_iload_n C (dk ddX10_relation 0 rfl) rfl ?_
  refine x_callS C (As := [.int (nI g)]) (k_X10_isGroup l D T o (d - 1) G I L (nI g)) mlX10_98 ⟨by show d - 1 + 1 ≤ d; omega, by show 40 * (d - 1 + 1) ≤ 40 * d; omega⟩ ⟨Nat.le_refl _, Nat.le_refl _⟩ rfl (Nat.le_of_ble_eq_true rfl) (dk ddX10_relation 1 rfl) ?_
  rintro v_ G_ I_ L_ ⟨rfl, rfl, rfl, rfl⟩
  rw [show (ax_rng (nI g) 6) = true from ax_rng_ok (h := 6) (by omega) (by decide)]
  refine x_if_eq_b C (tgt := 19) (dk ddX10_relation 2 rfl) (by decide) (fun h_ => absurd h_ (by decide)) (fun _ => ?_)
  refine x_iload_n C (dk ddX10_relation 3 rfl) rfl ?_
  refine x_iload_n C (dk ddX10_relation 4 rfl) rfl ?_
  refine x_iload C (dk ddX10_relation 5 rfl) rfl ?_
  refine x_bipush C (v := nI 9) (dk ddX10_relation 6 rfl) (by decide) ?_
  refine x_callS C (As := [.int x, .int y, .int z, .int (nI 9)]) (k_X10_areWithin l D T o (d - 1) G I L x y z (nI 9) (by omega)) mlX10_114 ⟨by show d - 1 + 1 ≤ d; omega, by show 40 * (d - 1 + 1) ≤ 40 * d; omega⟩ ⟨Nat.le_refl _, Nat.le_refl _⟩ rfl (Nat.le_of_ble_eq_true rfl) (dk ddX10_relation 7 rfl) ?_
  rintro v_ G_ I_ L_ ⟨rfl, rfl, rfl, rfl⟩
  rw [show (ax_iw x.toInt64 (nI 9).toInt64 && ax_iw y.toInt64 (nI 9).toInt64 && ax_iw z.toInt64 (nI 9).toInt64) = true from he]
  refine x_if_ne_b C (tgt := 21) (dk ddX10_relation 8 rfl) (by decide) (fun _ => ?_) (fun h_ => absurd h_ (by decide))
  refine x_aload_n C (dk ddX10_relation 11 rfl) rfl ?_
  refine x_getr C flX10_10 rfl (by have h_ := hC.1; omega) hC.fld.1 (show ax_R G a 0 = some (a + 1) from hC.fld.2.2 (0, 1) (by decide)) (dk ddX10_relation 12 rfl) ?_
  refine x_getr C flX10_118 rfl (by have h_ := hC.state.1; omega) (show ax_K G (a + 1) = 8 + 7 from (hC.state.2 0 _ rfl).1) (show ax_R G (a + 1) 1 = some (a + 1 + 2) from (hC.state.2 0 _ rfl).2.2 (1, 2) (by decide)) (dk ddX10_relation 13 rfl) ?_
  refine x_iload_n C (dk ddX10_relation 14 rfl) rfl ?_
  refine x_iald_n C (by have h_ := hC.state.1; omega) (show ax_K G (a + 1 + 2) = 0 from (hC.state.2 2 _ rfl).1) (show ax_N G (a + 1 + 2) = 6 from (hC.state.2 2 _ rfl).2.1) (by omega) (by decide) (dk ddX10_relation 15 rfl) ?_
  rw [show (I (a + 1 + 2) g) = nI (gc g) from (by repeat (first | exact ax_u_at _ _ _ _ | exact (hgc g (by omega)).1 | rw [ax_u_ne (by omega)] | rw [ax_u_nj (by decide)] | rw [ax_sc_ne (by omega)] | rw [ax_rem_ne (by omega) (by omega)] | unfold ax_ldI | unfold ax_woI | unfold ax_rxI | unfold ax_frI0 | unfold ax_frI1 | unfold ax_frI2 | rw [hI_ _ (by omega)] | rw [hN_ (by omega)]))]
  refine x_iconst C (v := nI 4) (dk ddX10_relation 16 rfl) (by decide) ?_
  refine x_icmp_lt_n C (tgt := 37) (dk ddX10_relation 17 rfl) (by decide) (by omega) (by decide) (fun h31 => ?_) (fun h31 => ?_)
  · exfalso
    omega
  · refine x_bipush C (v := (-2)) (dk ddX10_relation 18 rfl) (by decide) ?_
    exact x_iret C rfl ⟨rfl, rfl, rfl, rfl⟩ rfl rfl (dk ddX10_relation 19 rfl)
def ax_relI (I : ax_I) (L : ax_L) (a : Nat) (c : Nat) (k : Nat) (g : Nat) (x : Int32) (y : Int32) (z : Int32) (gn : Nat → Nat) (gc : Nat → Nat) : ax_I := ax_u (ax_tkr (a + 1) ((g * 4 + gc g) * 3) (a + 621) (ax_tl (a + 621) (gn g) x y z L) 3 (ax_rem a c k I)) (a + 1 + 2) g (nI (gc g + 1))
set_option maxRecDepth 20000 in
/-- relation(g, x, y, z) -/
theorem k_X10_relation (l : Launch) (D : va_G) (T : Nat → ClassId) (o d : Nat) (G : ax_G) (I : ax_I) (L : ax_L) (a c k g : Nat) (x y z : Int32) (gn gc : Nat → Nat) (hC : ax_Cls G a) (hc : I (a + 29) 1 = nI c) (hk : I (a + 29) 2 = nI k) (hc2 : c < 20) (hk2 : k ≤ 20) (hgn : ∀ g, g < 6 → I (a + 1 + 1) g = nI (gn g) ∧ gn g ≤ 3) (hgc : ∀ g, g < 6 → I (a + 1 + 2) g = nI (gc g) ∧ gc g ≤ 4) (hg : g < 6) (he : (ax_iw x.toInt64 (nI 9).toInt64 && ax_iw y.toInt64 (nI 9).toInt64 && ax_iw z.toInt64 (nI 9).toInt64) = true) (h4 : gc g < 4) (hd : 4 ≤ d) : ax_Con l D T o yX10_relation cX10_relation 5 (some .int) d 0 0 [.ref a, .int (nI g), .int x, .int y, .int z] G I L (fun zz G' I' L' => zz = some (.int (nI (gc g + 1))) ∧ G = G' ∧ (ax_relI I L a c k g x y z gn gc) = I' ∧ (ax_tl (a + 621) (gn g) x y z L) = L') := by
  refine ax_enter (by decide +kernel) (Nat.le_of_ble_eq_true rfl) ?_
  intro p_ e_ s_ m_ args_ below_ meth_ c_ C _
  refine x_lvs (lv' := [(0, .ref a), (1, .int (nI g)), (2, .int x), (3, .int y), (4, .int z)]) rfl ?_
  refine x_iload_n C (dk ddX10_relation 0 rfl) rfl ?_
  refine x_callS C (As := [.int (nI g)]) (k_X10_isGroup l D T o (d - 1) G I L (nI g)) mlX10_98 ⟨by show d - 1 + 1 ≤ d; omega, by show 40 * (d - 1 + 1) ≤ 40 * d; omega⟩ ⟨Nat.le_refl _, Nat.le_refl _⟩ rfl (Nat.le_of_ble_eq_true rfl) (dk ddX10_relation 1 rfl) ?_
  rintro v_ G_ I_ L_ ⟨rfl, rfl, rfl, rfl⟩
  rw [show (ax_rng (nI g) 6) = true from ax_rng_ok (h := 6) (by omega) (by decide)]
  refine x_if_eq_b C (tgt := 19) (dk ddX10_relation 2 rfl) (by decide) (fun h_ => absurd h_ (by decide)) (fun _ => ?_)
  refine x_iload_n C (dk ddX10_relation 3 rfl) rfl ?_
  refine x_iload_n C (dk ddX10_relation 4 rfl) rfl ?_
  refine x_iload C (dk ddX10_relation 5 rfl) rfl ?_
  refine x_bipush C (v := nI 9) (dk ddX10_relation 6 rfl) (by decide) ?_
  refine x_callS C (As := [.int x, .int y, .int z, .int (nI 9)]) (k_X10_areWithin l D T o (d - 1) G I L x y z (nI 9) (by omega)) mlX10_114 ⟨by show d - 1 + 1 ≤ d; omega, by show 40 * (d - 1 + 1) ≤ 40 * d; omega⟩ ⟨Nat.le_refl _, Nat.le_refl _⟩ rfl (Nat.le_of_ble_eq_true rfl) (dk ddX10_relation 7 rfl) ?_
  rintro v_ G_ I_ L_ ⟨rfl, rfl, rfl, rfl⟩
  rw [show (ax_iw x.toInt64 (nI 9).toInt64 && ax_iw y.toInt64 (nI 9).toInt64 && ax_iw z.toInt64 (nI 9).toInt64) = true from he]
  refine x_if_ne_b C (tgt := 21) (dk ddX10_relation 8 rfl) (by decide) (fun _ => ?_) (fun h_ => absurd h_ (by decide))
  refine x_aload_n C (dk ddX10_relation 11 rfl) rfl ?_
  refine x_getr C flX10_10 rfl (by have h_ := hC.1; omega) hC.fld.1 (show ax_R G a 0 = some (a + 1) from hC.fld.2.2 (0, 1) (by decide)) (dk ddX10_relation 12 rfl) ?_
  refine x_getr C flX10_118 rfl (by have h_ := hC.state.1; omega) (show ax_K G (a + 1) = 8 + 7 from (hC.state.2 0 _ rfl).1) (show ax_R G (a + 1) 1 = some (a + 1 + 2) from (hC.state.2 0 _ rfl).2.2 (1, 2) (by decide)) (dk ddX10_relation 13 rfl) ?_
  refine x_iload_n C (dk ddX10_relation 14 rfl) rfl ?_
  refine x_iald_n C (by have h_ := hC.state.1; omega) (show ax_K G (a + 1 + 2) = 0 from (hC.state.2 2 _ rfl).1) (show ax_N G (a + 1 + 2) = 6 from (hC.state.2 2 _ rfl).2.1) (by omega) (by decide) (dk ddX10_relation 15 rfl) ?_
  rw [show (I (a + 1 + 2) g) = nI (gc g) from (by repeat (first | exact ax_u_at _ _ _ _ | exact (hgc g (by omega)).1 | rw [ax_u_ne (by omega)] | rw [ax_u_nj (by decide)] | rw [ax_sc_ne (by omega)] | rw [ax_rem_ne (by omega) (by omega)] | unfold ax_ldI | unfold ax_woI | unfold ax_rxI | unfold ax_frI0 | unfold ax_frI1 | unfold ax_frI2 | rw [hI_ _ (by omega)] | rw [hN_ (by omega)]))]
  refine x_iconst C (v := nI 4) (dk ddX10_relation 16 rfl) (by decide) ?_
  refine x_icmp_lt_n C (tgt := 37) (dk ddX10_relation 17 rfl) (by decide) (by omega) (by decide) (fun h31 => ?_) (fun h31 => ?_)
  · refine x_aload_n C (dk ddX10_relation 20 rfl) rfl ?_
    refine x_getr C flX10_26 rfl (by have h_ := hC.1; omega) hC.fld.1 (show ax_R G a 3 = some (a + 29) from hC.fld.2.2 (3, 29) (by decide)) (dk ddX10_relation 21 rfl) ?_
    refine x_aload_n C (dk ddX10_relation 22 rfl) rfl ?_
    refine x_getr C flX10_10 rfl (by have h_ := hC.1; omega) hC.fld.1 (show ax_R G a 0 = some (a + 1) from hC.fld.2.2 (0, 1) (by decide)) (dk ddX10_relation 23 rfl) ?_
    refine x_callV C (ci := 1) (As := [.ref (a + 1)]) (k_X1_rem l D T o (d - 1) G I L a c k hC hc hk hc2 hk2 (by omega)) mlX10_102 rfl rfl (by have h_ := hC.1; omega) (show ax_K G (a + 29) = 8 + 1 from (hC.history.2 0 _ rfl).1) ⟨by show d - 1 + 1 ≤ d; omega, by show 40 * (d - 1 + 1) ≤ 40 * d; omega⟩ ⟨Nat.le_refl _, Nat.le_refl _⟩ rfl (Nat.le_of_ble_eq_true rfl) (dk ddX10_relation 24 rfl) ?_
    rintro v_ G_ I_ L_ ⟨rfl, rfl, rfl, rfl⟩
    refine x_aload_n C (dk ddX10_relation 25 rfl) rfl ?_
    refine x_iload_n C (dk ddX10_relation 26 rfl) rfl ?_
    refine x_iload_n C (dk ddX10_relation 27 rfl) rfl ?_
    refine x_iload_n C (dk ddX10_relation 28 rfl) rfl ?_
    refine x_iload C (dk ddX10_relation 29 rfl) rfl ?_
    refine x_callV C (ci := 10) (As := [.int (nI g), .int x, .int y, .int z]) (k_X10_tell l D T o (d - 1) G (ax_rem a c k I) L a g (gn g) x y z hC (by omega) (by repeat (first | exact ax_u_at _ _ _ _ | exact (hgn g (by omega)).1 | rw [ax_u_ne (by omega)] | rw [ax_u_nj (by decide)] | rw [ax_sc_ne (by omega)] | rw [ax_rem_ne (by omega) (by omega)] | unfold ax_ldI | unfold ax_woI | unfold ax_rxI | unfold ax_frI0 | unfold ax_frI1 | unfold ax_frI2 | rw [hI_ _ (by omega)] | rw [hN_ (by omega)])) (hgn g (by omega)).2 (by omega)) mlX10_121 rfl rfl (by have h_ := hC.1; omega) hC.fld.1 ⟨by show d - 1 + 1 ≤ d; omega, by show 40 * (d - 1 + 1) ≤ 40 * d; omega⟩ ⟨Nat.le_refl _, Nat.le_refl _⟩ rfl (Nat.le_of_ble_eq_true rfl) (dk ddX10_relation 30 rfl) ?_
    rintro v_ G_ I_ L_ ⟨rfl, rfl, rfl, rfl⟩
    refine x_aload_n C (dk ddX10_relation 31 rfl) rfl ?_
    refine x_getr C flX10_10 rfl (by have h_ := hC.1; omega) hC.fld.1 (show ax_R G a 0 = some (a + 1) from hC.fld.2.2 (0, 1) (by decide)) (dk ddX10_relation 32 rfl) ?_
    refine x_iload_n C (dk ddX10_relation 33 rfl) rfl ?_
    refine x_aload_n C (dk ddX10_relation 34 rfl) rfl ?_
    refine x_getr C flX10_89 rfl (by have h_ := hC.1; omega) hC.fld.1 (show ax_R G a 15 = some (a + 621) from hC.fld.2.2 (15, 621) (by decide)) (dk ddX10_relation 35 rfl) ?_
    refine x_callV C (ci := 7) (As := [.int (nI g), .ref (a + 621)]) (k_X7_takeRelation l D T o (d - 1) G (ax_rem a c k I) (ax_tl (a + 621) (gn g) x y z L) (a + 1) g (a + 621) (gc g) 6 hC.state (by omega) ⟨hC.row.1, hC.row.2.1, hC.row.2.2⟩ (by decide) (by decide) (by repeat (first | exact ax_u_at _ _ _ _ | exact (hgc g hg).1 | rw [ax_u_ne (by omega)] | rw [ax_u_nj (by decide)] | rw [ax_sc_ne (by omega)] | rw [ax_rem_ne (by omega) (by omega)] | unfold ax_ldI | unfold ax_woI | unfold ax_rxI | unfold ax_frI0 | unfold ax_frI1 | unfold ax_frI2 | rw [hI_ _ (by omega)] | rw [hN_ (by omega)])) (by omega)) mlX10_125 rfl rfl (by have h_ := hC.state.1; omega) (show ax_K G (a + 1) = 8 + 7 from (hC.state.2 0 _ rfl).1) ⟨by show d - 1 + 1 ≤ d; omega, by show 40 * (d - 1 + 1) ≤ 40 * d; omega⟩ ⟨Nat.le_refl _, Nat.le_refl _⟩ rfl (Nat.le_of_ble_eq_true rfl) (dk ddX10_relation 36 rfl) ?_
    rintro v_ G_ I_ L_ ⟨rfl, rfl, rfl, rfl⟩
    refine x_aload_n C (dk ddX10_relation 37 rfl) rfl ?_
    refine x_getr C flX10_10 rfl (by have h_ := hC.1; omega) hC.fld.1 (show ax_R G a 0 = some (a + 1) from hC.fld.2.2 (0, 1) (by decide)) (dk ddX10_relation 38 rfl) ?_
    refine x_getr C flX10_118 rfl (by have h_ := hC.state.1; omega) (show ax_K G (a + 1) = 8 + 7 from (hC.state.2 0 _ rfl).1) (show ax_R G (a + 1) 1 = some (a + 1 + 2) from (hC.state.2 0 _ rfl).2.2 (1, 2) (by decide)) (dk ddX10_relation 39 rfl) ?_
    refine x_iload_n C (dk ddX10_relation 40 rfl) rfl ?_
    refine x_iald_n C (by have h_ := hC.state.1; omega) (show ax_K G (a + 1 + 2) = 0 from (hC.state.2 2 _ rfl).1) (show ax_N G (a + 1 + 2) = 6 from (hC.state.2 2 _ rfl).2.1) (by omega) (by decide) (dk ddX10_relation 41 rfl) ?_
    rw [show ((ax_u (ax_tkr (a + 1) ((g * 4 + gc g) * 3) (a + 621) (ax_tl (a + 621) (gn g) x y z L) 3 (ax_rem a c k I)) (a + 1 + 2) g (nI (gc g + 1))) (a + 1 + 2) g) = nI (gc g + 1) from ax_u_at _ _ _ _]
    exact x_iret C rfl ⟨rfl, rfl, rfl, rfl⟩ rfl rfl (dk ddX10_relation 42 rfl)
  · exfalso
    omega
set_option maxRecDepth 20000 in
/-- isMove(0, v) -/
theorem k_X10_isMove_0 (l : Launch) (D : va_G) (T : Nat → ClassId) (o d : Nat) (G : ax_G) (I : ax_I) (L : ax_L) (a : Nat) (v : Int32) (hC : ax_Cls G a) (hd : 2 ≤ d) : ax_Con l D T o yX10_isMove cX10_isMove 3 (some .boolean) d 0 0 [.ref a, .int (nI 0), .int v] G I L (fun zz G' I' L' => zz = some (.int (ax_b (if v < 0 then false else (if (nI 3) ≤ v then false else true)))) ∧ G = G' ∧ I = I' ∧ L = L') := by
  refine ax_enter (by decide +kernel) (Nat.le_of_ble_eq_true rfl) ?_
  intro p_ e_ s_ m_ args_ below_ meth_ c_ C _
  refine x_lvs (lv' := [(0, .ref a), (1, .int (nI 0)), (2, .int v)]) rfl ?_
  refine x_iload_n C (dk ddX10_isMove 0 rfl) rfl ?_
  refine x_tableIn C (off := 31) (tgt := 32) (dk ddX10_isMove 1 rfl) (by decide) (by decide) (by decide) (by decide) ?_
  refine x_iload_n C (dk ddX10_isMove 2 rfl) rfl ?_
  refine x_if_lt C (tgt := 45) (dk ddX10_isMove 3 rfl) (by decide) (fun h33 => ?_) (fun h33 => ?_)
  · have h33c := Int32.not_le.mpr h33
    refine x_iconst C (v := nI 0) (dk ddX10_isMove 9 rfl) (by decide) ?_
    exact x_zret C rfl rfl ⟨(by rw [if_pos h33] <;> rfl), rfl, rfl, rfl⟩ rfl rfl (dk ddX10_isMove 10 rfl)
  · have h33c := Int32.not_lt.mp h33
    refine x_iload_n C (dk ddX10_isMove 4 rfl) rfl ?_
    refine x_iconst C (v := nI 3) (dk ddX10_isMove 5 rfl) (by decide) ?_
    refine x_icmp_ge C (tgt := 45) (dk ddX10_isMove 6 rfl) (by decide) (fun h38 => ?_) (fun h38 => ?_)
    · have h38c := Int32.not_lt.mpr h38
      refine x_iconst C (v := nI 0) (dk ddX10_isMove 9 rfl) (by decide) ?_
      exact x_zret C rfl rfl ⟨(by rw [if_neg h33, if_pos h38] <;> rfl), rfl, rfl, rfl⟩ rfl rfl (dk ddX10_isMove 10 rfl)
    · have h38c := Int32.not_le.mp h38
      refine x_iconst C (v := nI 1) (dk ddX10_isMove 7 rfl) (by decide) ?_
      refine x_goto C (tgt := 46) (dk ddX10_isMove 8 rfl) (by decide) ?_
      exact x_zret C rfl rfl ⟨(by rw [if_neg h33, if_neg h38] <;> rfl), rfl, rfl, rfl⟩ rfl rfl (dk ddX10_isMove 10 rfl)
set_option maxRecDepth 20000 in
/-- isMove(1, v) -/
theorem k_X10_isMove_1 (l : Launch) (D : va_G) (T : Nat → ClassId) (o d : Nat) (G : ax_G) (I : ax_I) (L : ax_L) (a : Nat) (v : Int32) (hC : ax_Cls G a) (hd : 2 ≤ d) : ax_Con l D T o yX10_isMove cX10_isMove 3 (some .boolean) d 0 0 [.ref a, .int (nI 1), .int v] G I L (fun zz G' I' L' => zz = some (.int (ax_b (ax_iw v.toInt64 9))) ∧ G = G' ∧ I = I' ∧ L = L') := by
  refine ax_enter (by decide +kernel) (Nat.le_of_ble_eq_true rfl) ?_
  intro p_ e_ s_ m_ args_ below_ meth_ c_ C _
  refine x_lvs (lv' := [(0, .ref a), (1, .int (nI 1)), (2, .int v)]) rfl ?_
  refine x_iload_n C (dk ddX10_isMove 0 rfl) rfl ?_
  refine x_tableIn C (off := 46) (tgt := 47) (dk ddX10_isMove 1 rfl) (by decide) (by decide) (by decide) (by decide) ?_
  refine x_iload_n C (dk ddX10_isMove 11 rfl) rfl ?_
  refine x_i2l C (dk ddX10_isMove 12 rfl) ?_
  refine x_ldc2 C klX10_391 (dk ddX10_isMove 13 rfl) ?_
  refine x_callS C (As := [.long v.toInt64, .long 9]) (k_X10_isWithin l D T o (d - 1) G I L v.toInt64 9) mlX10_385 ⟨by show d - 1 + 1 ≤ d; omega, by show 40 * (d - 1 + 1) ≤ 40 * d; omega⟩ ⟨Nat.le_refl _, Nat.le_refl _⟩ rfl (Nat.le_of_ble_eq_true rfl) (dk ddX10_isMove 14 rfl) ?_
  rintro v_ G_ I_ L_ ⟨rfl, rfl, rfl, rfl⟩
  exact x_zret C rfl (ax_b_nar _) ⟨rfl, rfl, rfl, rfl⟩ rfl rfl (dk ddX10_isMove 15 rfl)
set_option maxRecDepth 20000 in
/-- isMove(3, v) -/
theorem k_X10_isMove_3 (l : Launch) (D : va_G) (T : Nat → ClassId) (o d : Nat) (G : ax_G) (I : ax_I) (L : ax_L) (a : Nat) (v : Int32) (hC : ax_Cls G a) (hd : 2 ≤ d) : ax_Con l D T o yX10_isMove cX10_isMove 3 (some .boolean) d 0 0 [.ref a, .int (nI 3), .int v] G I L (fun zz G' I' L' => zz = some (.int (ax_b (true))) ∧ G = G' ∧ I = I' ∧ L = L') := by
  refine ax_enter (by decide +kernel) (Nat.le_of_ble_eq_true rfl) ?_
  intro p_ e_ s_ m_ args_ below_ meth_ c_ C _
  refine x_lvs (lv' := [(0, .ref a), (1, .int (nI 3)), (2, .int v)]) rfl ?_
  refine x_iload_n C (dk ddX10_isMove 0 rfl) rfl ?_
  refine x_tableIn C (off := 61) (tgt := 62) (dk ddX10_isMove 1 rfl) (by decide) (by decide) (by decide) (by decide) ?_
  refine x_iconst C (v := nI 1) (dk ddX10_isMove 20 rfl) (by decide) ?_
  exact x_zret C rfl rfl ⟨rfl, rfl, rfl, rfl⟩ rfl rfl (dk ddX10_isMove 21 rfl)
set_option maxRecDepth 20000 in
/-- isMove(2, v) -/
theorem k_X10_isMove_2 (l : Launch) (D : va_G) (T : Nat → ClassId) (o d : Nat) (G : ax_G) (I : ax_I) (L : ax_L) (a : Nat) (v : Int32) (hC : ax_Cls G a) (hd : 2 ≤ d) : ax_Con l D T o yX10_isMove cX10_isMove 3 (some .boolean) d 0 0 [.ref a, .int (nI 2), .int v] G I L (fun zz G' I' L' => zz = some (.int (ax_b (ax_in3 v.toInt64 0 7 && !decide (I (a + 1 + 4) v.toNatClampNeg = -1)))) ∧ G = G' ∧ I = I' ∧ L = L') := by
  refine ax_enter (by decide +kernel) (Nat.le_of_ble_eq_true rfl) ?_
  intro p_ e_ s_ m_ args_ below_ meth_ c_ C _
  refine x_lvs (lv' := [(0, .ref a), (1, .int (nI 2)), (2, .int v)]) rfl ?_
  refine x_iload_n C (dk ddX10_isMove 0 rfl) rfl ?_
  refine x_tableIn C (off := 55) (tgt := 56) (dk ddX10_isMove 1 rfl) (by decide) (by decide) (by decide) (by decide) ?_
  refine x_aload_n C (dk ddX10_isMove 16 rfl) rfl ?_
  refine x_iload_n C (dk ddX10_isMove 17 rfl) rfl ?_
  refine x_callV C (ci := 10) (As := [.int v]) (k_X10_isMapI l D T o (d - 1) G I L a v hC (by omega)) mlX10_218 rfl rfl (by have h_ := hC.1; omega) hC.fld.1 ⟨by show d - 1 + 1 ≤ d; omega, by show 40 * (d - 1 + 1) ≤ 40 * d; omega⟩ ⟨Nat.le_refl _, Nat.le_refl _⟩ rfl (Nat.le_of_ble_eq_true rfl) (dk ddX10_isMove 18 rfl) ?_
  rintro v_ G_ I_ L_ ⟨rfl, rfl, rfl, rfl⟩
  exact x_zret C rfl (ax_b_nar _) ⟨rfl, rfl, rfl, rfl⟩ rfl rfl (dk ddX10_isMove 19 rfl)
set_option maxRecDepth 20000 in
/-- isMove of no sort -/
theorem k_X10_isMove_no (l : Launch) (D : va_G) (T : Nat → ClassId) (o d : Nat) (G : ax_G) (I : ax_I) (L : ax_L) (a : Nat) (u v : Int32) (hC : ax_Cls G a) (hu : u.toInt < 0 ∨ 3 < u.toInt) (hd : 2 ≤ d) : ax_Con l D T o yX10_isMove cX10_isMove 3 (some .boolean) d 0 0 [.ref a, .int u, .int v] G I L (fun zz G' I' L' => zz = some (.int (ax_b (false))) ∧ G = G' ∧ I = I' ∧ L = L') := by
  refine ax_enter (by decide +kernel) (Nat.le_of_ble_eq_true rfl) ?_
  intro p_ e_ s_ m_ args_ below_ meth_ c_ C _
  refine x_lvs (lv' := [(0, .ref a), (1, .int u), (2, .int v)]) rfl ?_
  refine x_iload_n C (dk ddX10_isMove 0 rfl) rfl ?_
  refine x_tableOut C (tgt := 64) (dk ddX10_isMove 1 rfl) hu (by decide) ?_
  refine x_iconst C (v := nI 0) (dk ddX10_isMove 22 rfl) (by decide) ?_
  exact x_zret C rfl rfl ⟨rfl, rfl, rfl, rfl⟩ rfl rfl (dk ddX10_isMove 23 rfl)
set_option maxRecDepth 20000 in
/-- move of no sort -/
theorem k_X10_move_no (l : Launch) (D : va_G) (T : Nat → ClassId) (o d : Nat) (G : ax_G) (I : ax_I) (L : ax_L) (a : Nat) (u v : Int32) (hC : ax_Cls G a) (hu : u.toInt < 0 ∨ 3 < u.toInt) (hd : 4 ≤ d) : ax_Con l D T o yX10_move cX10_move 3 (some .int) d 0 0 [.ref a, .int u, .int v] G I L (fun zz G' I' L' => zz = some (.int ((-1))) ∧ G = G' ∧ I = I' ∧ L = L') := by
  refine ax_enter (by decide +kernel) (Nat.le_of_ble_eq_true rfl) ?_
  intro p_ e_ s_ m_ args_ below_ meth_ c_ C _
  refine x_lvs (lv' := [(0, .ref a), (1, .int u), (2, .int v)]) rfl ?_
  refine x_aload_n C (dk ddX10_move 0 rfl) rfl ?_
  refine x_iload_n C (dk ddX10_move 1 rfl) rfl ?_
  refine x_iload_n C (dk ddX10_move 2 rfl) rfl ?_
  refine x_callV C (ci := 10) (As := [.int u, .int v]) (k_X10_isMove_no l D T o (d - 1) G I L a u v hC hu (by omega)) mlX10_318 rfl rfl (by have h_ := hC.1; omega) hC.fld.1 ⟨by show d - 1 + 1 ≤ d; omega, by show 40 * (d - 1 + 1) ≤ 40 * d; omega⟩ ⟨Nat.le_refl _, Nat.le_refl _⟩ rfl (Nat.le_of_ble_eq_true rfl) (dk ddX10_move 3 rfl) ?_
  rintro v_ G_ I_ L_ ⟨rfl, rfl, rfl, rfl⟩
  refine x_if_ne_b C (tgt := 11) (dk ddX10_move 4 rfl) (by decide) (fun h_ => absurd h_ (by decide)) (fun _ => ?_)
  refine x_iconst C (v := (-1)) (dk ddX10_move 5 rfl) (by decide) ?_
  exact x_iret C rfl ⟨rfl, rfl, rfl, rfl⟩ rfl rfl (dk ddX10_move 6 rfl)
set_option maxRecDepth 20000 in
/-- move(0, v), refused -/
theorem k_X10_move_bad0 (l : Launch) (D : va_G) (T : Nat → ClassId) (o d : Nat) (G : ax_G) (I : ax_I) (L : ax_L) (a : Nat) (v : Int32) (hC : ax_Cls G a) (hbad : (if v < 0 then false else (if (nI 3) ≤ v then false else true)) = false) (hd : 4 ≤ d) : ax_Con l D T o yX10_move cX10_move 3 (some .int) d 0 0 [.ref a, .int (nI 0), .int v] G I L (fun zz G' I' L' => zz = some (.int ((-1))) ∧ G = G' ∧ I = I' ∧ L = L') := by
  refine ax_enter (by decide +kernel) (Nat.le_of_ble_eq_true rfl) ?_
  intro p_ e_ s_ m_ args_ below_ meth_ c_ C _
  refine x_lvs (lv' := [(0, .ref a), (1, .int (nI 0)), (2, .int v)]) rfl ?_
  refine x_aload_n C (dk ddX10_move 0 rfl) rfl ?_
  refine x_iload_n C (dk ddX10_move 1 rfl) rfl ?_
  refine x_iload_n C (dk ddX10_move 2 rfl) rfl ?_
  refine x_callV C (ci := 10) (As := [.int (nI 0), .int v]) (k_X10_isMove_0 l D T o (d - 1) G I L a v hC (by omega)) mlX10_318 rfl rfl (by have h_ := hC.1; omega) hC.fld.1 ⟨by show d - 1 + 1 ≤ d; omega, by show 40 * (d - 1 + 1) ≤ 40 * d; omega⟩ ⟨Nat.le_refl _, Nat.le_refl _⟩ rfl (Nat.le_of_ble_eq_true rfl) (dk ddX10_move 3 rfl) ?_
  rintro v_ G_ I_ L_ ⟨rfl, rfl, rfl, rfl⟩
  rw [show (if v < 0 then false else (if (nI 3) ≤ v then false else true)) = false from hbad]
  refine x_if_ne_b C (tgt := 11) (dk ddX10_move 4 rfl) (by decide) (fun h_ => absurd h_ (by decide)) (fun _ => ?_)
  refine x_iconst C (v := (-1)) (dk ddX10_move 5 rfl) (by decide) ?_
  exact x_iret C rfl ⟨rfl, rfl, rfl, rfl⟩ rfl rfl (dk ddX10_move 6 rfl)
set_option maxRecDepth 20000 in
/-- move(0, v), full -/
theorem k_X10_move_full0 (l : Launch) (D : va_G) (T : Nat → ClassId) (o d : Nat) (G : ax_G) (I : ax_I) (L : ax_L) (a p : Nat) (v : Int32) (hC : ax_Cls G a) (hp : I (a + 1) 6 = nI p) (hp12 : p ≤ 12) (hok : (if v < 0 then false else (if (nI 3) ≤ v then false else true)) = true) (hf : p = 12) (hd : 4 ≤ d) : ax_Con l D T o yX10_move cX10_move 3 (some .int) d 0 0 [.ref a, .int (nI 0), .int v] G I L (fun zz G' I' L' => zz = some (.int ((-2))) ∧ G = G' ∧ I = I' ∧ L = L') := by
  refine ax_enter (by decide +kernel) (Nat.le_of_ble_eq_true rfl) ?_
  intro p_ e_ s_ m_ args_ below_ meth_ c_ C _
  refine x_lvs (lv' := [(0, .ref a), (1, .int (nI 0)), (2, .int v)]) rfl ?_
  refine x_aload_n C (dk ddX10_move 0 rfl) rfl ?_
  refine x_iload_n C (dk ddX10_move 1 rfl) rfl ?_
  refine x_iload_n C (dk ddX10_move 2 rfl) rfl ?_
  refine x_callV C (ci := 10) (As := [.int (nI 0), .int v]) (k_X10_isMove_0 l D T o (d - 1) G I L a v hC (by omega)) mlX10_318 rfl rfl (by have h_ := hC.1; omega) hC.fld.1 ⟨by show d - 1 + 1 ≤ d; omega, by show 40 * (d - 1 + 1) ≤ 40 * d; omega⟩ ⟨Nat.le_refl _, Nat.le_refl _⟩ rfl (Nat.le_of_ble_eq_true rfl) (dk ddX10_move 3 rfl) ?_
  rintro v_ G_ I_ L_ ⟨rfl, rfl, rfl, rfl⟩
  rw [show (if v < 0 then false else (if (nI 3) ≤ v then false else true)) = true from hok]
  refine x_if_ne_b C (tgt := 11) (dk ddX10_move 4 rfl) (by decide) (fun _ => ?_) (fun h_ => absurd h_ (by decide))
  refine x_aload_n C (dk ddX10_move 7 rfl) rfl ?_
  refine x_getr C flX10_10 rfl (by have h_ := hC.1; omega) hC.fld.1 (show ax_R G a 0 = some (a + 1) from hC.fld.2.2 (0, 1) (by decide)) (dk ddX10_move 8 rfl) ?_
  refine x_geti C flX10_321 rfl (by have h_ := hC.state.1; omega) (show ax_K G (a + 1) = 8 + 7 from (hC.state.2 0 _ rfl).1) (dk ddX10_move 9 rfl) ?_
  rw [show (I (a + 1) 6) = nI p from hp]
  refine x_bipush C (v := nI 12) (dk ddX10_move 10 rfl) (by decide) ?_
  refine x_icmp_lt_n C (tgt := 26) (dk ddX10_move 11 rfl) (by decide) (by omega) (by decide) (fun h20 => ?_) (fun h20 => ?_)
  · exfalso
    omega
  · refine x_bipush C (v := (-2)) (dk ddX10_move 12 rfl) (by decide) ?_
    exact x_iret C rfl ⟨rfl, rfl, rfl, rfl⟩ rfl rfl (dk ddX10_move 13 rfl)
set_option maxRecDepth 20000 in
/-- move(1, v), refused -/
theorem k_X10_move_bad1 (l : Launch) (D : va_G) (T : Nat → ClassId) (o d : Nat) (G : ax_G) (I : ax_I) (L : ax_L) (a : Nat) (v : Int32) (hC : ax_Cls G a) (hbad : (ax_iw v.toInt64 9) = false) (hd : 4 ≤ d) : ax_Con l D T o yX10_move cX10_move 3 (some .int) d 0 0 [.ref a, .int (nI 1), .int v] G I L (fun zz G' I' L' => zz = some (.int ((-1))) ∧ G = G' ∧ I = I' ∧ L = L') := by
  refine ax_enter (by decide +kernel) (Nat.le_of_ble_eq_true rfl) ?_
  intro p_ e_ s_ m_ args_ below_ meth_ c_ C _
  refine x_lvs (lv' := [(0, .ref a), (1, .int (nI 1)), (2, .int v)]) rfl ?_
  refine x_aload_n C (dk ddX10_move 0 rfl) rfl ?_
  refine x_iload_n C (dk ddX10_move 1 rfl) rfl ?_
  refine x_iload_n C (dk ddX10_move 2 rfl) rfl ?_
  refine x_callV C (ci := 10) (As := [.int (nI 1), .int v]) (k_X10_isMove_1 l D T o (d - 1) G I L a v hC (by omega)) mlX10_318 rfl rfl (by have h_ := hC.1; omega) hC.fld.1 ⟨by show d - 1 + 1 ≤ d; omega, by show 40 * (d - 1 + 1) ≤ 40 * d; omega⟩ ⟨Nat.le_refl _, Nat.le_refl _⟩ rfl (Nat.le_of_ble_eq_true rfl) (dk ddX10_move 3 rfl) ?_
  rintro v_ G_ I_ L_ ⟨rfl, rfl, rfl, rfl⟩
  rw [show (ax_iw v.toInt64 9) = false from hbad]
  refine x_if_ne_b C (tgt := 11) (dk ddX10_move 4 rfl) (by decide) (fun h_ => absurd h_ (by decide)) (fun _ => ?_)
  refine x_iconst C (v := (-1)) (dk ddX10_move 5 rfl) (by decide) ?_
  exact x_iret C rfl ⟨rfl, rfl, rfl, rfl⟩ rfl rfl (dk ddX10_move 6 rfl)
set_option maxRecDepth 20000 in
/-- move(1, v), full -/
theorem k_X10_move_full1 (l : Launch) (D : va_G) (T : Nat → ClassId) (o d : Nat) (G : ax_G) (I : ax_I) (L : ax_L) (a p : Nat) (v : Int32) (hC : ax_Cls G a) (hp : I (a + 1) 6 = nI p) (hp12 : p ≤ 12) (hok : (ax_iw v.toInt64 9) = true) (hf : p = 12) (hd : 4 ≤ d) : ax_Con l D T o yX10_move cX10_move 3 (some .int) d 0 0 [.ref a, .int (nI 1), .int v] G I L (fun zz G' I' L' => zz = some (.int ((-2))) ∧ G = G' ∧ I = I' ∧ L = L') := by
  refine ax_enter (by decide +kernel) (Nat.le_of_ble_eq_true rfl) ?_
  intro p_ e_ s_ m_ args_ below_ meth_ c_ C _
  refine x_lvs (lv' := [(0, .ref a), (1, .int (nI 1)), (2, .int v)]) rfl ?_
  refine x_aload_n C (dk ddX10_move 0 rfl) rfl ?_
  refine x_iload_n C (dk ddX10_move 1 rfl) rfl ?_
  refine x_iload_n C (dk ddX10_move 2 rfl) rfl ?_
  refine x_callV C (ci := 10) (As := [.int (nI 1), .int v]) (k_X10_isMove_1 l D T o (d - 1) G I L a v hC (by omega)) mlX10_318 rfl rfl (by have h_ := hC.1; omega) hC.fld.1 ⟨by show d - 1 + 1 ≤ d; omega, by show 40 * (d - 1 + 1) ≤ 40 * d; omega⟩ ⟨Nat.le_refl _, Nat.le_refl _⟩ rfl (Nat.le_of_ble_eq_true rfl) (dk ddX10_move 3 rfl) ?_
  rintro v_ G_ I_ L_ ⟨rfl, rfl, rfl, rfl⟩
  rw [show (ax_iw v.toInt64 9) = true from hok]
  refine x_if_ne_b C (tgt := 11) (dk ddX10_move 4 rfl) (by decide) (fun _ => ?_) (fun h_ => absurd h_ (by decide))
  refine x_aload_n C (dk ddX10_move 7 rfl) rfl ?_
  refine x_getr C flX10_10 rfl (by have h_ := hC.1; omega) hC.fld.1 (show ax_R G a 0 = some (a + 1) from hC.fld.2.2 (0, 1) (by decide)) (dk ddX10_move 8 rfl) ?_
  refine x_geti C flX10_321 rfl (by have h_ := hC.state.1; omega) (show ax_K G (a + 1) = 8 + 7 from (hC.state.2 0 _ rfl).1) (dk ddX10_move 9 rfl) ?_
  rw [show (I (a + 1) 6) = nI p from hp]
  refine x_bipush C (v := nI 12) (dk ddX10_move 10 rfl) (by decide) ?_
  refine x_icmp_lt_n C (tgt := 26) (dk ddX10_move 11 rfl) (by decide) (by omega) (by decide) (fun h20 => ?_) (fun h20 => ?_)
  · exfalso
    omega
  · refine x_bipush C (v := (-2)) (dk ddX10_move 12 rfl) (by decide) ?_
    exact x_iret C rfl ⟨rfl, rfl, rfl, rfl⟩ rfl rfl (dk ddX10_move 13 rfl)
set_option maxRecDepth 20000 in
/-- move(2, v), refused -/
theorem k_X10_move_bad2 (l : Launch) (D : va_G) (T : Nat → ClassId) (o d : Nat) (G : ax_G) (I : ax_I) (L : ax_L) (a : Nat) (v : Int32) (hC : ax_Cls G a) (hbad : (ax_in3 v.toInt64 0 7 && !decide (I (a + 1 + 4) v.toNatClampNeg = -1)) = false) (hd : 4 ≤ d) : ax_Con l D T o yX10_move cX10_move 3 (some .int) d 0 0 [.ref a, .int (nI 2), .int v] G I L (fun zz G' I' L' => zz = some (.int ((-1))) ∧ G = G' ∧ I = I' ∧ L = L') := by
  refine ax_enter (by decide +kernel) (Nat.le_of_ble_eq_true rfl) ?_
  intro p_ e_ s_ m_ args_ below_ meth_ c_ C _
  refine x_lvs (lv' := [(0, .ref a), (1, .int (nI 2)), (2, .int v)]) rfl ?_
  refine x_aload_n C (dk ddX10_move 0 rfl) rfl ?_
  refine x_iload_n C (dk ddX10_move 1 rfl) rfl ?_
  refine x_iload_n C (dk ddX10_move 2 rfl) rfl ?_
  refine x_callV C (ci := 10) (As := [.int (nI 2), .int v]) (k_X10_isMove_2 l D T o (d - 1) G I L a v hC (by omega)) mlX10_318 rfl rfl (by have h_ := hC.1; omega) hC.fld.1 ⟨by show d - 1 + 1 ≤ d; omega, by show 40 * (d - 1 + 1) ≤ 40 * d; omega⟩ ⟨Nat.le_refl _, Nat.le_refl _⟩ rfl (Nat.le_of_ble_eq_true rfl) (dk ddX10_move 3 rfl) ?_
  rintro v_ G_ I_ L_ ⟨rfl, rfl, rfl, rfl⟩
  rw [show (ax_in3 v.toInt64 0 7 && !decide (I (a + 1 + 4) v.toNatClampNeg = -1)) = false from hbad]
  refine x_if_ne_b C (tgt := 11) (dk ddX10_move 4 rfl) (by decide) (fun h_ => absurd h_ (by decide)) (fun _ => ?_)
  refine x_iconst C (v := (-1)) (dk ddX10_move 5 rfl) (by decide) ?_
  exact x_iret C rfl ⟨rfl, rfl, rfl, rfl⟩ rfl rfl (dk ddX10_move 6 rfl)
set_option maxRecDepth 20000 in
/-- move(2, v), full -/
theorem k_X10_move_full2 (l : Launch) (D : va_G) (T : Nat → ClassId) (o d : Nat) (G : ax_G) (I : ax_I) (L : ax_L) (a p : Nat) (v : Int32) (hC : ax_Cls G a) (hp : I (a + 1) 6 = nI p) (hp12 : p ≤ 12) (hok : (ax_in3 v.toInt64 0 7 && !decide (I (a + 1 + 4) v.toNatClampNeg = -1)) = true) (hf : p = 12) (hd : 4 ≤ d) : ax_Con l D T o yX10_move cX10_move 3 (some .int) d 0 0 [.ref a, .int (nI 2), .int v] G I L (fun zz G' I' L' => zz = some (.int ((-2))) ∧ G = G' ∧ I = I' ∧ L = L') := by
  refine ax_enter (by decide +kernel) (Nat.le_of_ble_eq_true rfl) ?_
  intro p_ e_ s_ m_ args_ below_ meth_ c_ C _
  refine x_lvs (lv' := [(0, .ref a), (1, .int (nI 2)), (2, .int v)]) rfl ?_
  refine x_aload_n C (dk ddX10_move 0 rfl) rfl ?_
  refine x_iload_n C (dk ddX10_move 1 rfl) rfl ?_
  refine x_iload_n C (dk ddX10_move 2 rfl) rfl ?_
  refine x_callV C (ci := 10) (As := [.int (nI 2), .int v]) (k_X10_isMove_2 l D T o (d - 1) G I L a v hC (by omega)) mlX10_318 rfl rfl (by have h_ := hC.1; omega) hC.fld.1 ⟨by show d - 1 + 1 ≤ d; omega, by show 40 * (d - 1 + 1) ≤ 40 * d; omega⟩ ⟨Nat.le_refl _, Nat.le_refl _⟩ rfl (Nat.le_of_ble_eq_true rfl) (dk ddX10_move 3 rfl) ?_
  rintro v_ G_ I_ L_ ⟨rfl, rfl, rfl, rfl⟩
  rw [show (ax_in3 v.toInt64 0 7 && !decide (I (a + 1 + 4) v.toNatClampNeg = -1)) = true from hok]
  refine x_if_ne_b C (tgt := 11) (dk ddX10_move 4 rfl) (by decide) (fun _ => ?_) (fun h_ => absurd h_ (by decide))
  refine x_aload_n C (dk ddX10_move 7 rfl) rfl ?_
  refine x_getr C flX10_10 rfl (by have h_ := hC.1; omega) hC.fld.1 (show ax_R G a 0 = some (a + 1) from hC.fld.2.2 (0, 1) (by decide)) (dk ddX10_move 8 rfl) ?_
  refine x_geti C flX10_321 rfl (by have h_ := hC.state.1; omega) (show ax_K G (a + 1) = 8 + 7 from (hC.state.2 0 _ rfl).1) (dk ddX10_move 9 rfl) ?_
  rw [show (I (a + 1) 6) = nI p from hp]
  refine x_bipush C (v := nI 12) (dk ddX10_move 10 rfl) (by decide) ?_
  refine x_icmp_lt_n C (tgt := 26) (dk ddX10_move 11 rfl) (by decide) (by omega) (by decide) (fun h20 => ?_) (fun h20 => ?_)
  · exfalso
    omega
  · refine x_bipush C (v := (-2)) (dk ddX10_move 12 rfl) (by decide) ?_
    exact x_iret C rfl ⟨rfl, rfl, rfl, rfl⟩ rfl rfl (dk ddX10_move 13 rfl)
set_option maxRecDepth 20000 in
/-- move(3, v), full -/
theorem k_X10_move_full3 (l : Launch) (D : va_G) (T : Nat → ClassId) (o d : Nat) (G : ax_G) (I : ax_I) (L : ax_L) (a p : Nat) (v : Int32) (hC : ax_Cls G a) (hp : I (a + 1) 6 = nI p) (hp12 : p ≤ 12) (hf : p = 12) (hd : 4 ≤ d) : ax_Con l D T o yX10_move cX10_move 3 (some .int) d 0 0 [.ref a, .int (nI 3), .int v] G I L (fun zz G' I' L' => zz = some (.int ((-2))) ∧ G = G' ∧ I = I' ∧ L = L') := by
  refine ax_enter (by decide +kernel) (Nat.le_of_ble_eq_true rfl) ?_
  intro p_ e_ s_ m_ args_ below_ meth_ c_ C _
  refine x_lvs (lv' := [(0, .ref a), (1, .int (nI 3)), (2, .int v)]) rfl ?_
  refine x_aload_n C (dk ddX10_move 0 rfl) rfl ?_
  refine x_iload_n C (dk ddX10_move 1 rfl) rfl ?_
  refine x_iload_n C (dk ddX10_move 2 rfl) rfl ?_
  refine x_callV C (ci := 10) (As := [.int (nI 3), .int v]) (k_X10_isMove_3 l D T o (d - 1) G I L a v hC (by omega)) mlX10_318 rfl rfl (by have h_ := hC.1; omega) hC.fld.1 ⟨by show d - 1 + 1 ≤ d; omega, by show 40 * (d - 1 + 1) ≤ 40 * d; omega⟩ ⟨Nat.le_refl _, Nat.le_refl _⟩ rfl (Nat.le_of_ble_eq_true rfl) (dk ddX10_move 3 rfl) ?_
  rintro v_ G_ I_ L_ ⟨rfl, rfl, rfl, rfl⟩
  refine x_if_ne_b C (tgt := 11) (dk ddX10_move 4 rfl) (by decide) (fun _ => ?_) (fun h_ => absurd h_ (by decide))
  refine x_aload_n C (dk ddX10_move 7 rfl) rfl ?_
  refine x_getr C flX10_10 rfl (by have h_ := hC.1; omega) hC.fld.1 (show ax_R G a 0 = some (a + 1) from hC.fld.2.2 (0, 1) (by decide)) (dk ddX10_move 8 rfl) ?_
  refine x_geti C flX10_321 rfl (by have h_ := hC.state.1; omega) (show ax_K G (a + 1) = 8 + 7 from (hC.state.2 0 _ rfl).1) (dk ddX10_move 9 rfl) ?_
  rw [show (I (a + 1) 6) = nI p from hp]
  refine x_bipush C (v := nI 12) (dk ddX10_move 10 rfl) (by decide) ?_
  refine x_icmp_lt_n C (tgt := 26) (dk ddX10_move 11 rfl) (by decide) (by omega) (by decide) (fun h20 => ?_) (fun h20 => ?_)
  · exfalso
    omega
  · refine x_bipush C (v := (-2)) (dk ddX10_move 12 rfl) (by decide) ?_
    exact x_iret C rfl ⟨rfl, rfl, rfl, rfl⟩ rfl rfl (dk ddX10_move 13 rfl)
/-- a move by a map comes: place p, map j from g to h -/
def ax_tmm (I : ax_I) (a p j g h : Nat) : ax_I := (ax_u (ax_cp (ax_u (ax_u (ax_u (ax_u (ax_u (ax_u I (a + 7) p (nI 2)) (a + 8) p (nI j)) (a + 9) p (nI g)) (a + 10) p (nI h)) (a + 11) p (I (a + 1) g)) (a + 12) p (I (a + 1) h)) (a + 6) (a + 13) (9 * j) (9 * p) 9) a 6 (nI (p + 1)))
theorem k_X7_takeMove_mapD (l : Launch) (D : va_G) (T : Nat → ClassId) (o d : Nat) (G : ax_G) (I : ax_I) (L : ax_L) (a p j g h : Nat) (ha : ax_Sta G a) (hp : I a 6 = nI p) (hp12 : p < 12) (hj : j < 8) (hg : I (a + 4) j = nI g) (hg6 : g < 6) (hh : I (a + 5) j = nI h) (hh6 : h < 6) (hd : 1 ≤ d) : ax_Con l D T o yX7_takeMove cX7_takeMove 3 none d 0 0 [.ref a, .int (nI 2), .int (nI j)] G I L (fun zz G' I' L' => zz = none ∧ G = G' ∧ ax_tmm I a p j g h = I' ∧ L = L') := k_X7_takeMove_map l D T o d G I L a p j g h ha hp hp12 hj hg hg6 hh hh6 hd
theorem ax_tmm_6 (I : ax_I) (a p j g h : Nat) : ax_tmm I a p j g h a 6 = nI (p + 1) := ax_u_at _ _ _ _
set_option maxRecDepth 20000 in
/-- move(0, v) -/
theorem k_X10_move_0 (l : Launch) (D : va_G) (T : Nat → ClassId) (o d : Nat) (G : ax_G) (I : ax_I) (L : ax_L) (a c k p : Nat) (v : Int32) (hC : ax_Cls G a) (hc : I (a + 29) 1 = nI c) (hk : I (a + 29) 2 = nI k) (hc2 : c < 20) (hk2 : k ≤ 20) (hp : I (a + 1) 6 = nI p) (hp12 : p ≤ 12) (hok : (if v < 0 then false else (if (nI 3) ≤ v then false else true)) = true) (hf : p < 12) (hd : 4 ≤ d) : ax_Con l D T o yX10_move cX10_move 3 (some .int) d 0 0 [.ref a, .int (nI 0), .int v] G I L (fun zz G' I' L' => zz = some (.int (nI (p + 1))) ∧ G = G' ∧ (ax_u (ax_u (ax_u (ax_rem a c k I) (a + 1 + 7) p (nI 0)) (a + 1 + 8) p v) (a + 1) 6 (nI (p + 1))) = I' ∧ L = L') := by
  refine ax_enter (by decide +kernel) (Nat.le_of_ble_eq_true rfl) ?_
  intro p_ e_ s_ m_ args_ below_ meth_ c_ C _
  refine x_lvs (lv' := [(0, .ref a), (1, .int (nI 0)), (2, .int v)]) rfl ?_
  refine x_aload_n C (dk ddX10_move 0 rfl) rfl ?_
  refine x_iload_n C (dk ddX10_move 1 rfl) rfl ?_
  refine x_iload_n C (dk ddX10_move 2 rfl) rfl ?_
  refine x_callV C (ci := 10) (As := [.int (nI 0), .int v]) (k_X10_isMove_0 l D T o (d - 1) G I L a v hC (by omega)) mlX10_318 rfl rfl (by have h_ := hC.1; omega) hC.fld.1 ⟨by show d - 1 + 1 ≤ d; omega, by show 40 * (d - 1 + 1) ≤ 40 * d; omega⟩ ⟨Nat.le_refl _, Nat.le_refl _⟩ rfl (Nat.le_of_ble_eq_true rfl) (dk ddX10_move 3 rfl) ?_
  rintro v_ G_ I_ L_ ⟨rfl, rfl, rfl, rfl⟩
  rw [show (if v < 0 then false else (if (nI 3) ≤ v then false else true)) = true from hok]
  refine x_if_ne_b C (tgt := 11) (dk ddX10_move 4 rfl) (by decide) (fun _ => ?_) (fun h_ => absurd h_ (by decide))
  refine x_aload_n C (dk ddX10_move 7 rfl) rfl ?_
  refine x_getr C flX10_10 rfl (by have h_ := hC.1; omega) hC.fld.1 (show ax_R G a 0 = some (a + 1) from hC.fld.2.2 (0, 1) (by decide)) (dk ddX10_move 8 rfl) ?_
  refine x_geti C flX10_321 rfl (by have h_ := hC.state.1; omega) (show ax_K G (a + 1) = 8 + 7 from (hC.state.2 0 _ rfl).1) (dk ddX10_move 9 rfl) ?_
  rw [show (I (a + 1) 6) = nI p from (by repeat (first | exact ax_u_at _ _ _ _ | exact hp | rw [ax_u_ne (by omega)] | rw [ax_u_nj (by decide)] | rw [ax_sc_ne (by omega)] | rw [ax_rem_ne (by omega) (by omega)] | unfold ax_ldI | unfold ax_woI | unfold ax_rxI | unfold ax_frI0 | unfold ax_frI1 | unfold ax_frI2 | rw [hI_ _ (by omega)] | rw [hN_ (by omega)]))]
  refine x_bipush C (v := nI 12) (dk ddX10_move 10 rfl) (by decide) ?_
  refine x_icmp_lt_n C (tgt := 26) (dk ddX10_move 11 rfl) (by decide) (by omega) (by decide) (fun h20 => ?_) (fun h20 => ?_)
  · refine x_aload_n C (dk ddX10_move 14 rfl) rfl ?_
    refine x_getr C flX10_26 rfl (by have h_ := hC.1; omega) hC.fld.1 (show ax_R G a 3 = some (a + 29) from hC.fld.2.2 (3, 29) (by decide)) (dk ddX10_move 15 rfl) ?_
    refine x_aload_n C (dk ddX10_move 16 rfl) rfl ?_
    refine x_getr C flX10_10 rfl (by have h_ := hC.1; omega) hC.fld.1 (show ax_R G a 0 = some (a + 1) from hC.fld.2.2 (0, 1) (by decide)) (dk ddX10_move 17 rfl) ?_
    refine x_callV C (ci := 1) (As := [.ref (a + 1)]) (k_X1_rem l D T o (d - 1) G I L a c k hC hc hk hc2 hk2 (by omega)) mlX10_102 rfl rfl (by have h_ := hC.1; omega) (show ax_K G (a + 29) = 8 + 1 from (hC.history.2 0 _ rfl).1) ⟨by show d - 1 + 1 ≤ d; omega, by show 40 * (d - 1 + 1) ≤ 40 * d; omega⟩ ⟨Nat.le_refl _, Nat.le_refl _⟩ rfl (Nat.le_of_ble_eq_true rfl) (dk ddX10_move 18 rfl) ?_
    rintro v_ G_ I_ L_ ⟨rfl, rfl, rfl, rfl⟩
    refine x_aload_n C (dk ddX10_move 19 rfl) rfl ?_
    refine x_getr C flX10_10 rfl (by have h_ := hC.1; omega) hC.fld.1 (show ax_R G a 0 = some (a + 1) from hC.fld.2.2 (0, 1) (by decide)) (dk ddX10_move 20 rfl) ?_
    refine x_iload_n C (dk ddX10_move 21 rfl) rfl ?_
    refine x_iload_n C (dk ddX10_move 22 rfl) rfl ?_
    refine x_callV C (ci := 7) (As := [.int (nI 0), .int v]) (k_X7_takeMove l D T o (d - 1) G (ax_rem a c k I) L (a + 1) p (nI 0) v hC.state (by repeat (first | exact ax_u_at _ _ _ _ | exact hp | rw [ax_u_ne (by omega)] | rw [ax_u_nj (by decide)] | rw [ax_sc_ne (by omega)] | rw [ax_rem_ne (by omega) (by omega)] | unfold ax_ldI | unfold ax_woI | unfold ax_rxI | unfold ax_frI0 | unfold ax_frI1 | unfold ax_frI2 | rw [hI_ _ (by omega)] | rw [hN_ (by omega)])) (by omega) (by decide)) mlX10_324 rfl rfl (by have h_ := hC.state.1; omega) (show ax_K G (a + 1) = 8 + 7 from (hC.state.2 0 _ rfl).1) ⟨by show d - 1 + 1 ≤ d; omega, by show 40 * (d - 1 + 1) ≤ 40 * d; omega⟩ ⟨Nat.le_refl _, Nat.le_refl _⟩ rfl (Nat.le_of_ble_eq_true rfl) (dk ddX10_move 23 rfl) ?_
    rintro v_ G_ I_ L_ ⟨rfl, rfl, rfl, rfl⟩
    refine x_aload_n C (dk ddX10_move 24 rfl) rfl ?_
    refine x_getr C flX10_10 rfl (by have h_ := hC.1; omega) hC.fld.1 (show ax_R G a 0 = some (a + 1) from hC.fld.2.2 (0, 1) (by decide)) (dk ddX10_move 25 rfl) ?_
    refine x_geti C flX10_321 rfl (by have h_ := hC.state.1; omega) (show ax_K G (a + 1) = 8 + 7 from (hC.state.2 0 _ rfl).1) (dk ddX10_move 26 rfl) ?_
    rw [show ((ax_u (ax_u (ax_u (ax_rem a c k I) (a + 1 + 7) p (nI 0)) (a + 1 + 8) p v) (a + 1) 6 (nI (p + 1))) (a + 1) 6) = nI (p + 1) from ax_u_at _ _ _ _]
    exact x_iret C rfl ⟨rfl, rfl, rfl, rfl⟩ rfl rfl (dk ddX10_move 27 rfl)
  · exfalso
    omega
set_option maxRecDepth 20000 in
/-- move(1, v) -/
theorem k_X10_move_1 (l : Launch) (D : va_G) (T : Nat → ClassId) (o d : Nat) (G : ax_G) (I : ax_I) (L : ax_L) (a c k p : Nat) (v : Int32) (hC : ax_Cls G a) (hc : I (a + 29) 1 = nI c) (hk : I (a + 29) 2 = nI k) (hc2 : c < 20) (hk2 : k ≤ 20) (hp : I (a + 1) 6 = nI p) (hp12 : p ≤ 12) (hok : (ax_iw v.toInt64 9) = true) (hf : p < 12) (hd : 4 ≤ d) : ax_Con l D T o yX10_move cX10_move 3 (some .int) d 0 0 [.ref a, .int (nI 1), .int v] G I L (fun zz G' I' L' => zz = some (.int (nI (p + 1))) ∧ G = G' ∧ (ax_u (ax_u (ax_u (ax_rem a c k I) (a + 1 + 7) p (nI 1)) (a + 1 + 8) p v) (a + 1) 6 (nI (p + 1))) = I' ∧ L = L') := by
  refine ax_enter (by decide +kernel) (Nat.le_of_ble_eq_true rfl) ?_
  intro p_ e_ s_ m_ args_ below_ meth_ c_ C _
  refine x_lvs (lv' := [(0, .ref a), (1, .int (nI 1)), (2, .int v)]) rfl ?_
  refine x_aload_n C (dk ddX10_move 0 rfl) rfl ?_
  refine x_iload_n C (dk ddX10_move 1 rfl) rfl ?_
  refine x_iload_n C (dk ddX10_move 2 rfl) rfl ?_
  refine x_callV C (ci := 10) (As := [.int (nI 1), .int v]) (k_X10_isMove_1 l D T o (d - 1) G I L a v hC (by omega)) mlX10_318 rfl rfl (by have h_ := hC.1; omega) hC.fld.1 ⟨by show d - 1 + 1 ≤ d; omega, by show 40 * (d - 1 + 1) ≤ 40 * d; omega⟩ ⟨Nat.le_refl _, Nat.le_refl _⟩ rfl (Nat.le_of_ble_eq_true rfl) (dk ddX10_move 3 rfl) ?_
  rintro v_ G_ I_ L_ ⟨rfl, rfl, rfl, rfl⟩
  rw [show (ax_iw v.toInt64 9) = true from hok]
  refine x_if_ne_b C (tgt := 11) (dk ddX10_move 4 rfl) (by decide) (fun _ => ?_) (fun h_ => absurd h_ (by decide))
  refine x_aload_n C (dk ddX10_move 7 rfl) rfl ?_
  refine x_getr C flX10_10 rfl (by have h_ := hC.1; omega) hC.fld.1 (show ax_R G a 0 = some (a + 1) from hC.fld.2.2 (0, 1) (by decide)) (dk ddX10_move 8 rfl) ?_
  refine x_geti C flX10_321 rfl (by have h_ := hC.state.1; omega) (show ax_K G (a + 1) = 8 + 7 from (hC.state.2 0 _ rfl).1) (dk ddX10_move 9 rfl) ?_
  rw [show (I (a + 1) 6) = nI p from (by repeat (first | exact ax_u_at _ _ _ _ | exact hp | rw [ax_u_ne (by omega)] | rw [ax_u_nj (by decide)] | rw [ax_sc_ne (by omega)] | rw [ax_rem_ne (by omega) (by omega)] | unfold ax_ldI | unfold ax_woI | unfold ax_rxI | unfold ax_frI0 | unfold ax_frI1 | unfold ax_frI2 | rw [hI_ _ (by omega)] | rw [hN_ (by omega)]))]
  refine x_bipush C (v := nI 12) (dk ddX10_move 10 rfl) (by decide) ?_
  refine x_icmp_lt_n C (tgt := 26) (dk ddX10_move 11 rfl) (by decide) (by omega) (by decide) (fun h20 => ?_) (fun h20 => ?_)
  · refine x_aload_n C (dk ddX10_move 14 rfl) rfl ?_
    refine x_getr C flX10_26 rfl (by have h_ := hC.1; omega) hC.fld.1 (show ax_R G a 3 = some (a + 29) from hC.fld.2.2 (3, 29) (by decide)) (dk ddX10_move 15 rfl) ?_
    refine x_aload_n C (dk ddX10_move 16 rfl) rfl ?_
    refine x_getr C flX10_10 rfl (by have h_ := hC.1; omega) hC.fld.1 (show ax_R G a 0 = some (a + 1) from hC.fld.2.2 (0, 1) (by decide)) (dk ddX10_move 17 rfl) ?_
    refine x_callV C (ci := 1) (As := [.ref (a + 1)]) (k_X1_rem l D T o (d - 1) G I L a c k hC hc hk hc2 hk2 (by omega)) mlX10_102 rfl rfl (by have h_ := hC.1; omega) (show ax_K G (a + 29) = 8 + 1 from (hC.history.2 0 _ rfl).1) ⟨by show d - 1 + 1 ≤ d; omega, by show 40 * (d - 1 + 1) ≤ 40 * d; omega⟩ ⟨Nat.le_refl _, Nat.le_refl _⟩ rfl (Nat.le_of_ble_eq_true rfl) (dk ddX10_move 18 rfl) ?_
    rintro v_ G_ I_ L_ ⟨rfl, rfl, rfl, rfl⟩
    refine x_aload_n C (dk ddX10_move 19 rfl) rfl ?_
    refine x_getr C flX10_10 rfl (by have h_ := hC.1; omega) hC.fld.1 (show ax_R G a 0 = some (a + 1) from hC.fld.2.2 (0, 1) (by decide)) (dk ddX10_move 20 rfl) ?_
    refine x_iload_n C (dk ddX10_move 21 rfl) rfl ?_
    refine x_iload_n C (dk ddX10_move 22 rfl) rfl ?_
    refine x_callV C (ci := 7) (As := [.int (nI 1), .int v]) (k_X7_takeMove l D T o (d - 1) G (ax_rem a c k I) L (a + 1) p (nI 1) v hC.state (by repeat (first | exact ax_u_at _ _ _ _ | exact hp | rw [ax_u_ne (by omega)] | rw [ax_u_nj (by decide)] | rw [ax_sc_ne (by omega)] | rw [ax_rem_ne (by omega) (by omega)] | unfold ax_ldI | unfold ax_woI | unfold ax_rxI | unfold ax_frI0 | unfold ax_frI1 | unfold ax_frI2 | rw [hI_ _ (by omega)] | rw [hN_ (by omega)])) (by omega) (by decide)) mlX10_324 rfl rfl (by have h_ := hC.state.1; omega) (show ax_K G (a + 1) = 8 + 7 from (hC.state.2 0 _ rfl).1) ⟨by show d - 1 + 1 ≤ d; omega, by show 40 * (d - 1 + 1) ≤ 40 * d; omega⟩ ⟨Nat.le_refl _, Nat.le_refl _⟩ rfl (Nat.le_of_ble_eq_true rfl) (dk ddX10_move 23 rfl) ?_
    rintro v_ G_ I_ L_ ⟨rfl, rfl, rfl, rfl⟩
    refine x_aload_n C (dk ddX10_move 24 rfl) rfl ?_
    refine x_getr C flX10_10 rfl (by have h_ := hC.1; omega) hC.fld.1 (show ax_R G a 0 = some (a + 1) from hC.fld.2.2 (0, 1) (by decide)) (dk ddX10_move 25 rfl) ?_
    refine x_geti C flX10_321 rfl (by have h_ := hC.state.1; omega) (show ax_K G (a + 1) = 8 + 7 from (hC.state.2 0 _ rfl).1) (dk ddX10_move 26 rfl) ?_
    rw [show ((ax_u (ax_u (ax_u (ax_rem a c k I) (a + 1 + 7) p (nI 1)) (a + 1 + 8) p v) (a + 1) 6 (nI (p + 1))) (a + 1) 6) = nI (p + 1) from ax_u_at _ _ _ _]
    exact x_iret C rfl ⟨rfl, rfl, rfl, rfl⟩ rfl rfl (dk ddX10_move 27 rfl)
  · exfalso
    omega
set_option maxRecDepth 20000 in
/-- move(3, v) -/
theorem k_X10_move_3 (l : Launch) (D : va_G) (T : Nat → ClassId) (o d : Nat) (G : ax_G) (I : ax_I) (L : ax_L) (a c k p : Nat) (v : Int32) (hC : ax_Cls G a) (hc : I (a + 29) 1 = nI c) (hk : I (a + 29) 2 = nI k) (hc2 : c < 20) (hk2 : k ≤ 20) (hp : I (a + 1) 6 = nI p) (hp12 : p ≤ 12) (hf : p < 12) (hd : 4 ≤ d) : ax_Con l D T o yX10_move cX10_move 3 (some .int) d 0 0 [.ref a, .int (nI 3), .int v] G I L (fun zz G' I' L' => zz = some (.int (nI (p + 1))) ∧ G = G' ∧ (ax_u (ax_u (ax_u (ax_rem a c k I) (a + 1 + 7) p (nI 3)) (a + 1 + 8) p v) (a + 1) 6 (nI (p + 1))) = I' ∧ L = L') := by
  refine ax_enter (by decide +kernel) (Nat.le_of_ble_eq_true rfl) ?_
  intro p_ e_ s_ m_ args_ below_ meth_ c_ C _
  refine x_lvs (lv' := [(0, .ref a), (1, .int (nI 3)), (2, .int v)]) rfl ?_
  refine x_aload_n C (dk ddX10_move 0 rfl) rfl ?_
  refine x_iload_n C (dk ddX10_move 1 rfl) rfl ?_
  refine x_iload_n C (dk ddX10_move 2 rfl) rfl ?_
  refine x_callV C (ci := 10) (As := [.int (nI 3), .int v]) (k_X10_isMove_3 l D T o (d - 1) G I L a v hC (by omega)) mlX10_318 rfl rfl (by have h_ := hC.1; omega) hC.fld.1 ⟨by show d - 1 + 1 ≤ d; omega, by show 40 * (d - 1 + 1) ≤ 40 * d; omega⟩ ⟨Nat.le_refl _, Nat.le_refl _⟩ rfl (Nat.le_of_ble_eq_true rfl) (dk ddX10_move 3 rfl) ?_
  rintro v_ G_ I_ L_ ⟨rfl, rfl, rfl, rfl⟩
  refine x_if_ne_b C (tgt := 11) (dk ddX10_move 4 rfl) (by decide) (fun _ => ?_) (fun h_ => absurd h_ (by decide))
  refine x_aload_n C (dk ddX10_move 7 rfl) rfl ?_
  refine x_getr C flX10_10 rfl (by have h_ := hC.1; omega) hC.fld.1 (show ax_R G a 0 = some (a + 1) from hC.fld.2.2 (0, 1) (by decide)) (dk ddX10_move 8 rfl) ?_
  refine x_geti C flX10_321 rfl (by have h_ := hC.state.1; omega) (show ax_K G (a + 1) = 8 + 7 from (hC.state.2 0 _ rfl).1) (dk ddX10_move 9 rfl) ?_
  rw [show (I (a + 1) 6) = nI p from (by repeat (first | exact ax_u_at _ _ _ _ | exact hp | rw [ax_u_ne (by omega)] | rw [ax_u_nj (by decide)] | rw [ax_sc_ne (by omega)] | rw [ax_rem_ne (by omega) (by omega)] | unfold ax_ldI | unfold ax_woI | unfold ax_rxI | unfold ax_frI0 | unfold ax_frI1 | unfold ax_frI2 | rw [hI_ _ (by omega)] | rw [hN_ (by omega)]))]
  refine x_bipush C (v := nI 12) (dk ddX10_move 10 rfl) (by decide) ?_
  refine x_icmp_lt_n C (tgt := 26) (dk ddX10_move 11 rfl) (by decide) (by omega) (by decide) (fun h20 => ?_) (fun h20 => ?_)
  · refine x_aload_n C (dk ddX10_move 14 rfl) rfl ?_
    refine x_getr C flX10_26 rfl (by have h_ := hC.1; omega) hC.fld.1 (show ax_R G a 3 = some (a + 29) from hC.fld.2.2 (3, 29) (by decide)) (dk ddX10_move 15 rfl) ?_
    refine x_aload_n C (dk ddX10_move 16 rfl) rfl ?_
    refine x_getr C flX10_10 rfl (by have h_ := hC.1; omega) hC.fld.1 (show ax_R G a 0 = some (a + 1) from hC.fld.2.2 (0, 1) (by decide)) (dk ddX10_move 17 rfl) ?_
    refine x_callV C (ci := 1) (As := [.ref (a + 1)]) (k_X1_rem l D T o (d - 1) G I L a c k hC hc hk hc2 hk2 (by omega)) mlX10_102 rfl rfl (by have h_ := hC.1; omega) (show ax_K G (a + 29) = 8 + 1 from (hC.history.2 0 _ rfl).1) ⟨by show d - 1 + 1 ≤ d; omega, by show 40 * (d - 1 + 1) ≤ 40 * d; omega⟩ ⟨Nat.le_refl _, Nat.le_refl _⟩ rfl (Nat.le_of_ble_eq_true rfl) (dk ddX10_move 18 rfl) ?_
    rintro v_ G_ I_ L_ ⟨rfl, rfl, rfl, rfl⟩
    refine x_aload_n C (dk ddX10_move 19 rfl) rfl ?_
    refine x_getr C flX10_10 rfl (by have h_ := hC.1; omega) hC.fld.1 (show ax_R G a 0 = some (a + 1) from hC.fld.2.2 (0, 1) (by decide)) (dk ddX10_move 20 rfl) ?_
    refine x_iload_n C (dk ddX10_move 21 rfl) rfl ?_
    refine x_iload_n C (dk ddX10_move 22 rfl) rfl ?_
    refine x_callV C (ci := 7) (As := [.int (nI 3), .int v]) (k_X7_takeMove l D T o (d - 1) G (ax_rem a c k I) L (a + 1) p (nI 3) v hC.state (by repeat (first | exact ax_u_at _ _ _ _ | exact hp | rw [ax_u_ne (by omega)] | rw [ax_u_nj (by decide)] | rw [ax_sc_ne (by omega)] | rw [ax_rem_ne (by omega) (by omega)] | unfold ax_ldI | unfold ax_woI | unfold ax_rxI | unfold ax_frI0 | unfold ax_frI1 | unfold ax_frI2 | rw [hI_ _ (by omega)] | rw [hN_ (by omega)])) (by omega) (by decide)) mlX10_324 rfl rfl (by have h_ := hC.state.1; omega) (show ax_K G (a + 1) = 8 + 7 from (hC.state.2 0 _ rfl).1) ⟨by show d - 1 + 1 ≤ d; omega, by show 40 * (d - 1 + 1) ≤ 40 * d; omega⟩ ⟨Nat.le_refl _, Nat.le_refl _⟩ rfl (Nat.le_of_ble_eq_true rfl) (dk ddX10_move 23 rfl) ?_
    rintro v_ G_ I_ L_ ⟨rfl, rfl, rfl, rfl⟩
    refine x_aload_n C (dk ddX10_move 24 rfl) rfl ?_
    refine x_getr C flX10_10 rfl (by have h_ := hC.1; omega) hC.fld.1 (show ax_R G a 0 = some (a + 1) from hC.fld.2.2 (0, 1) (by decide)) (dk ddX10_move 25 rfl) ?_
    refine x_geti C flX10_321 rfl (by have h_ := hC.state.1; omega) (show ax_K G (a + 1) = 8 + 7 from (hC.state.2 0 _ rfl).1) (dk ddX10_move 26 rfl) ?_
    rw [show ((ax_u (ax_u (ax_u (ax_rem a c k I) (a + 1 + 7) p (nI 3)) (a + 1 + 8) p v) (a + 1) 6 (nI (p + 1))) (a + 1) 6) = nI (p + 1) from ax_u_at _ _ _ _]
    exact x_iret C rfl ⟨rfl, rfl, rfl, rfl⟩ rfl rfl (dk ddX10_move 27 rfl)
  · exfalso
    omega
set_option maxRecDepth 20000 in
/-- move(2, j) -/
theorem k_X10_move_2 (l : Launch) (D : va_G) (T : Nat → ClassId) (o d : Nat) (G : ax_G) (I : ax_I) (L : ax_L) (a c k p j g h : Nat) (hC : ax_Cls G a) (hc : I (a + 29) 1 = nI c) (hk : I (a + 29) 2 = nI k) (hc2 : c < 20) (hk2 : k ≤ 20) (hp : I (a + 1) 6 = nI p) (hp12 : p ≤ 12) (hf_j : j < 8) (hg_j : I (a + 1 + 4) j = nI g) (hl_j : g < 6) (hh_j : I (a + 1 + 5) j = nI h) (hm_j : h < 6) (hf : p < 12) (hd : 4 ≤ d) : ax_Con l D T o yX10_move cX10_move 3 (some .int) d 0 0 [.ref a, .int (nI 2), .int (nI j)] G I L (fun zz G' I' L' => zz = some (.int (nI (p + 1))) ∧ G = G' ∧ (ax_tmm (ax_rem a c k I) (a + 1) p j g h) = I' ∧ L = L') := by
  refine ax_enter (by decide +kernel) (Nat.le_of_ble_eq_true rfl) ?_
  intro p_ e_ s_ m_ args_ below_ meth_ c_ C _
  refine x_lvs (lv' := [(0, .ref a), (1, .int (nI 2)), (2, .int (nI j))]) rfl ?_
  refine x_aload_n C (dk ddX10_move 0 rfl) rfl ?_
  refine x_iload_n C (dk ddX10_move 1 rfl) rfl ?_
  refine x_iload_n C (dk ddX10_move 2 rfl) rfl ?_
  refine x_callV C (ci := 10) (As := [.int (nI 2), .int (nI j)]) (k_X10_isMove_2 l D T o (d - 1) G I L a (nI j) hC (by omega)) mlX10_318 rfl rfl (by have h_ := hC.1; omega) hC.fld.1 ⟨by show d - 1 + 1 ≤ d; omega, by show 40 * (d - 1 + 1) ≤ 40 * d; omega⟩ ⟨Nat.le_refl _, Nat.le_refl _⟩ rfl (Nat.le_of_ble_eq_true rfl) (dk ddX10_move 3 rfl) ?_
  rintro v_ G_ I_ L_ ⟨rfl, rfl, rfl, rfl⟩
  rw [show (ax_in3 (nI j).toInt64 0 7 && !decide (I (a + 1 + 4) (nI j).toNatClampNeg = -1)) = true from by rw [show ax_in3 (nI j).toInt64 0 7 = true from ax_in3_ok (h := 7) (by omega) (by decide), Bool.true_and, nI_clamp (by omega), hg_j]; exact ax_hm hl_j]
  refine x_if_ne_b C (tgt := 11) (dk ddX10_move 4 rfl) (by decide) (fun _ => ?_) (fun h_ => absurd h_ (by decide))
  refine x_aload_n C (dk ddX10_move 7 rfl) rfl ?_
  refine x_getr C flX10_10 rfl (by have h_ := hC.1; omega) hC.fld.1 (show ax_R G a 0 = some (a + 1) from hC.fld.2.2 (0, 1) (by decide)) (dk ddX10_move 8 rfl) ?_
  refine x_geti C flX10_321 rfl (by have h_ := hC.state.1; omega) (show ax_K G (a + 1) = 8 + 7 from (hC.state.2 0 _ rfl).1) (dk ddX10_move 9 rfl) ?_
  rw [show (I (a + 1) 6) = nI p from (by repeat (first | exact ax_u_at _ _ _ _ | exact hp | rw [ax_u_ne (by omega)] | rw [ax_u_nj (by decide)] | rw [ax_sc_ne (by omega)] | rw [ax_rem_ne (by omega) (by omega)] | unfold ax_ldI | unfold ax_woI | unfold ax_rxI | unfold ax_frI0 | unfold ax_frI1 | unfold ax_frI2 | rw [hI_ _ (by omega)] | rw [hN_ (by omega)]))]
  refine x_bipush C (v := nI 12) (dk ddX10_move 10 rfl) (by decide) ?_
  refine x_icmp_lt_n C (tgt := 26) (dk ddX10_move 11 rfl) (by decide) (by omega) (by decide) (fun h20 => ?_) (fun h20 => ?_)
  · refine x_aload_n C (dk ddX10_move 14 rfl) rfl ?_
    refine x_getr C flX10_26 rfl (by have h_ := hC.1; omega) hC.fld.1 (show ax_R G a 3 = some (a + 29) from hC.fld.2.2 (3, 29) (by decide)) (dk ddX10_move 15 rfl) ?_
    refine x_aload_n C (dk ddX10_move 16 rfl) rfl ?_
    refine x_getr C flX10_10 rfl (by have h_ := hC.1; omega) hC.fld.1 (show ax_R G a 0 = some (a + 1) from hC.fld.2.2 (0, 1) (by decide)) (dk ddX10_move 17 rfl) ?_
    refine x_callV C (ci := 1) (As := [.ref (a + 1)]) (k_X1_rem l D T o (d - 1) G I L a c k hC hc hk hc2 hk2 (by omega)) mlX10_102 rfl rfl (by have h_ := hC.1; omega) (show ax_K G (a + 29) = 8 + 1 from (hC.history.2 0 _ rfl).1) ⟨by show d - 1 + 1 ≤ d; omega, by show 40 * (d - 1 + 1) ≤ 40 * d; omega⟩ ⟨Nat.le_refl _, Nat.le_refl _⟩ rfl (Nat.le_of_ble_eq_true rfl) (dk ddX10_move 18 rfl) ?_
    rintro v_ G_ I_ L_ ⟨rfl, rfl, rfl, rfl⟩
    refine x_aload_n C (dk ddX10_move 19 rfl) rfl ?_
    refine x_getr C flX10_10 rfl (by have h_ := hC.1; omega) hC.fld.1 (show ax_R G a 0 = some (a + 1) from hC.fld.2.2 (0, 1) (by decide)) (dk ddX10_move 20 rfl) ?_
    refine x_iload_n C (dk ddX10_move 21 rfl) rfl ?_
    refine x_iload_n C (dk ddX10_move 22 rfl) rfl ?_
    refine x_callV C (ci := 7) (As := [.int (nI 2), .int (nI j)]) (k_X7_takeMove_mapD l D T o (d - 1) G (ax_rem a c k I) L (a + 1) p j g h hC.state (by repeat (first | exact ax_u_at _ _ _ _ | exact hp | rw [ax_u_ne (by omega)] | rw [ax_u_nj (by decide)] | rw [ax_sc_ne (by omega)] | rw [ax_rem_ne (by omega) (by omega)] | unfold ax_ldI | unfold ax_woI | unfold ax_rxI | unfold ax_frI0 | unfold ax_frI1 | unfold ax_frI2 | rw [hI_ _ (by omega)] | rw [hN_ (by omega)])) (by omega) (by omega) (by repeat (first | exact ax_u_at _ _ _ _ | exact hg_j | rw [ax_u_ne (by omega)] | rw [ax_u_nj (by decide)] | rw [ax_sc_ne (by omega)] | rw [ax_rem_ne (by omega) (by omega)] | unfold ax_ldI | unfold ax_woI | unfold ax_rxI | unfold ax_frI0 | unfold ax_frI1 | unfold ax_frI2 | rw [hI_ _ (by omega)] | rw [hN_ (by omega)])) (by omega) (by repeat (first | exact ax_u_at _ _ _ _ | exact hh_j | rw [ax_u_ne (by omega)] | rw [ax_u_nj (by decide)] | rw [ax_sc_ne (by omega)] | rw [ax_rem_ne (by omega) (by omega)] | unfold ax_ldI | unfold ax_woI | unfold ax_rxI | unfold ax_frI0 | unfold ax_frI1 | unfold ax_frI2 | rw [hI_ _ (by omega)] | rw [hN_ (by omega)])) (by omega) (by omega)) mlX10_324 rfl rfl (by have h_ := hC.state.1; omega) (show ax_K G (a + 1) = 8 + 7 from (hC.state.2 0 _ rfl).1) ⟨by show d - 1 + 1 ≤ d; omega, by show 40 * (d - 1 + 1) ≤ 40 * d; omega⟩ ⟨Nat.le_refl _, Nat.le_refl _⟩ rfl (Nat.le_of_ble_eq_true rfl) (dk ddX10_move 23 rfl) ?_
    rintro v_ G_ I_ L_ ⟨rfl, rfl, rfl, rfl⟩
    refine x_aload_n C (dk ddX10_move 24 rfl) rfl ?_
    refine x_getr C flX10_10 rfl (by have h_ := hC.1; omega) hC.fld.1 (show ax_R G a 0 = some (a + 1) from hC.fld.2.2 (0, 1) (by decide)) (dk ddX10_move 25 rfl) ?_
    refine x_geti C flX10_321 rfl (by have h_ := hC.state.1; omega) (show ax_K G (a + 1) = 8 + 7 from (hC.state.2 0 _ rfl).1) (dk ddX10_move 26 rfl) ?_
    rw [show ((ax_tmm (ax_rem a c k I) (a + 1) p j g h) (a + 1) 6) = nI (p + 1) from ax_tmm_6 _ _ _ _ _ _]
    exact x_iret C rfl ⟨rfl, rfl, rfl, rfl⟩ rfl rfl (dk ddX10_move 27 rfl)
  · exfalso
    omega
set_option maxRecDepth 20000 in
/-- stop, refused -/
theorem k_X10_stop_bad (l : Launch) (D : va_G) (T : Nat → ClassId) (o d : Nat) (G : ax_G) (I : ax_I) (L : ax_L) (a : Nat) (u : Int32) (hC : ax_Cls G a) (hbad : u < 0 ∨ nI 3 < u) (hd : 3 ≤ d) : ax_Con l D T o yX10_stop cX10_stop 2 (some .int) d 0 0 [.ref a, .int u] G I L (fun zz G' I' L' => zz = some (.int ((-1))) ∧ G = G' ∧ I = I' ∧ L = L') := by
  refine ax_enter (by decide +kernel) (Nat.le_of_ble_eq_true rfl) ?_
  intro p_ e_ s_ m_ args_ below_ meth_ c_ C _
  refine x_lvs (lv' := [(0, .ref a), (1, .int u)]) rfl ?_
  refine x_iload_n C (dk ddX10_stop 0 rfl) rfl ?_
  refine x_if_lt C (tgt := 9) (dk ddX10_stop 1 rfl) (by decide) (fun h1 => ?_) (fun h1 => ?_)
  · have h1c := Int32.not_le.mpr h1
    refine x_iconst C (v := (-1)) (dk ddX10_stop 5 rfl) (by decide) ?_
    exact x_iret C rfl ⟨rfl, rfl, rfl, rfl⟩ rfl rfl (dk ddX10_stop 6 rfl)
  · have h1c := Int32.not_lt.mp h1
    refine x_iload_n C (dk ddX10_stop 2 rfl) rfl ?_
    refine x_iconst C (v := nI 3) (dk ddX10_stop 3 rfl) (by decide) ?_
    refine x_icmp_le C (tgt := 11) (dk ddX10_stop 4 rfl) (by decide) (fun h6 => ?_) (fun h6 => ?_)
    · have h6c := Int32.not_lt.mpr h6
      exfalso
      rcases hbad with hq_ | hq_ <;> first | exact absurd hq_ (by assumption) | (simp_all; done)
    · have h6c := Int32.not_le.mp h6
      refine x_iconst C (v := (-1)) (dk ddX10_stop 5 rfl) (by decide) ?_
      exact x_iret C rfl ⟨rfl, rfl, rfl, rfl⟩ rfl rfl (dk ddX10_stop 6 rfl)
set_option maxRecDepth 20000 in
/-- stop(u) -/
theorem k_X10_stop (l : Launch) (D : va_G) (T : Nat → ClassId) (o d : Nat) (G : ax_G) (I : ax_I) (L : ax_L) (a c k p : Nat) (u : Int32) (hC : ax_Cls G a) (hc : I (a + 29) 1 = nI c) (hk : I (a + 29) 2 = nI k) (hc2 : c < 20) (hk2 : k ≤ 20) (hp : I (a + 1) 6 = nI p) (hp12 : p ≤ 12) (hu1 : ¬ u < 0) (hu2 : ¬ nI 3 < u) (hd : 4 ≤ d) : ax_Con l D T o yX10_stop cX10_stop 2 (some .int) d 0 0 [.ref a, .int u] G I L (fun zz G' I' L' => zz = some (.int (nI ((ax_drm (a + 1) u p ((ax_rem a c k I), 0)).2))) ∧ G = G' ∧ (ax_u (ax_drm (a + 1) u p ((ax_rem a c k I), 0)).1 (a + 1) 6 (nI (ax_drm (a + 1) u p ((ax_rem a c k I), 0)).2)) = I' ∧ L = L') := by
  refine ax_enter (by decide +kernel) (Nat.le_of_ble_eq_true rfl) ?_
  intro p_ e_ s_ m_ args_ below_ meth_ c_ C _
  refine x_lvs (lv' := [(0, .ref a), (1, .int u)]) rfl ?_
  refine x_iload_n C (dk ddX10_stop 0 rfl) rfl ?_
  refine x_if_lt C (tgt := 9) (dk ddX10_stop 1 rfl) (by decide) (fun h1 => ?_) (fun h1 => ?_)
  · have h1c := Int32.not_le.mpr h1
    exfalso
    exact hu1 h1
  · have h1c := Int32.not_lt.mp h1
    refine x_iload_n C (dk ddX10_stop 2 rfl) rfl ?_
    refine x_iconst C (v := nI 3) (dk ddX10_stop 3 rfl) (by decide) ?_
    refine x_icmp_le C (tgt := 11) (dk ddX10_stop 4 rfl) (by decide) (fun h6 => ?_) (fun h6 => ?_)
    · have h6c := Int32.not_lt.mpr h6
      refine x_aload_n C (dk ddX10_stop 7 rfl) rfl ?_
      refine x_getr C flX10_26 rfl (by have h_ := hC.1; omega) hC.fld.1 (show ax_R G a 3 = some (a + 29) from hC.fld.2.2 (3, 29) (by decide)) (dk ddX10_stop 8 rfl) ?_
      refine x_aload_n C (dk ddX10_stop 9 rfl) rfl ?_
      refine x_getr C flX10_10 rfl (by have h_ := hC.1; omega) hC.fld.1 (show ax_R G a 0 = some (a + 1) from hC.fld.2.2 (0, 1) (by decide)) (dk ddX10_stop 10 rfl) ?_
      refine x_callV C (ci := 1) (As := [.ref (a + 1)]) (k_X1_rem l D T o (d - 1) G I L a c k hC hc hk hc2 hk2 (by omega)) mlX10_102 rfl rfl (by have h_ := hC.1; omega) (show ax_K G (a + 29) = 8 + 1 from (hC.history.2 0 _ rfl).1) ⟨by show d - 1 + 1 ≤ d; omega, by show 40 * (d - 1 + 1) ≤ 40 * d; omega⟩ ⟨Nat.le_refl _, Nat.le_refl _⟩ rfl (Nat.le_of_ble_eq_true rfl) (dk ddX10_stop 11 rfl) ?_
      rintro v_ G_ I_ L_ ⟨rfl, rfl, rfl, rfl⟩
      refine x_aload_n C (dk ddX10_stop 12 rfl) rfl ?_
      refine x_getr C flX10_10 rfl (by have h_ := hC.1; omega) hC.fld.1 (show ax_R G a 0 = some (a + 1) from hC.fld.2.2 (0, 1) (by decide)) (dk ddX10_stop 13 rfl) ?_
      refine x_iload_n C (dk ddX10_stop 14 rfl) rfl ?_
      refine x_callV C (ci := 7) (As := [.int u]) (k_X7_dropMoves l D T o (d - 1) G (ax_rem a c k I) L (a + 1) p u hC.state (by repeat (first | exact ax_u_at _ _ _ _ | exact hp | rw [ax_u_ne (by omega)] | rw [ax_u_nj (by decide)] | rw [ax_sc_ne (by omega)] | rw [ax_rem_ne (by omega) (by omega)] | unfold ax_ldI | unfold ax_woI | unfold ax_rxI | unfold ax_frI0 | unfold ax_frI1 | unfold ax_frI2 | rw [hI_ _ (by omega)] | rw [hN_ (by omega)])) (by omega) (by omega)) mlX10_327 rfl rfl (by have h_ := hC.state.1; omega) (show ax_K G (a + 1) = 8 + 7 from (hC.state.2 0 _ rfl).1) ⟨by show d - 1 + 1 ≤ d; omega, by show 40 * (d - 1 + 1) ≤ 40 * d; omega⟩ ⟨Nat.le_refl _, Nat.le_refl _⟩ rfl (Nat.le_of_ble_eq_true rfl) (dk ddX10_stop 15 rfl) ?_
      rintro v_ G_ I_ L_ ⟨rfl, rfl, rfl, rfl⟩
      refine x_aload_n C (dk ddX10_stop 16 rfl) rfl ?_
      refine x_getr C flX10_10 rfl (by have h_ := hC.1; omega) hC.fld.1 (show ax_R G a 0 = some (a + 1) from hC.fld.2.2 (0, 1) (by decide)) (dk ddX10_stop 17 rfl) ?_
      refine x_geti C flX10_321 rfl (by have h_ := hC.state.1; omega) (show ax_K G (a + 1) = 8 + 7 from (hC.state.2 0 _ rfl).1) (dk ddX10_stop 18 rfl) ?_
      rw [show ((ax_u (ax_drm (a + 1) u p ((ax_rem a c k I), 0)).1 (a + 1) 6 (nI (ax_drm (a + 1) u p ((ax_rem a c k I), 0)).2)) (a + 1) 6) = nI ((ax_drm (a + 1) u p ((ax_rem a c k I), 0)).2) from ax_u_at _ _ _ _]
      exact x_iret C rfl ⟨rfl, rfl, rfl, rfl⟩ rfl rfl (dk ddX10_stop 19 rfl)
    · have h6c := Int32.not_le.mp h6
      exfalso
      exact hu2 (Int32.not_le.mp h6)
set_option maxRecDepth 20000 in
/-- many(0) -/
theorem k_X10_many_0 (l : Launch) (D : va_G) (T : Nat → ClassId) (o d : Nat) (G : ax_G) (I : ax_I) (L : ax_L) (a : Nat) (hC : ax_Cls G a) (hd : 3 ≤ d) : ax_Con l D T o yX10_many cX10_many 2 (some .int) d 0 0 [.ref a, .int (nI 0)] G I L (fun zz G' I' L' => zz = some (.int (ax_smo (I (a + 1 + 1)) 6 (nI 0))) ∧ G = G' ∧ I = I' ∧ L = L') := by
  refine ax_enter (by decide +kernel) (Nat.le_of_ble_eq_true rfl) ?_
  intro p_ e_ s_ m_ args_ below_ meth_ c_ C _
  refine x_lvs (lv' := [(0, .ref a), (1, .int (nI 0))]) rfl ?_
  refine x_iload_n C (dk ddX10_many 0 rfl) rfl ?_
  refine x_tableIn C (off := 43) (tgt := 44) (dk ddX10_many 1 rfl) (by decide) (by decide) (by decide) (by decide) ?_
  refine x_aload_n C (dk ddX10_many 2 rfl) rfl ?_
  refine x_getr C flX10_10 rfl (by have h_ := hC.1; omega) hC.fld.1 (show ax_R G a 0 = some (a + 1) from hC.fld.2.2 (0, 1) (by decide)) (dk ddX10_many 3 rfl) ?_
  refine x_getr C flX10_106 rfl (by have h_ := hC.state.1; omega) (show ax_K G (a + 1) = 8 + 7 from (hC.state.2 0 _ rfl).1) (show ax_R G (a + 1) 0 = some (a + 1 + 1) from (hC.state.2 0 _ rfl).2.2 (0, 1) (by decide)) (dk ddX10_many 4 rfl) ?_
  refine x_callS C (As := [.ref (a + 1 + 1)]) (k_X10_sumOf l D T o (d - 1) G I L (a + 1 + 1) 6 (by have h_ := hC.state.1; omega) (show ax_K G (a + 1 + 1) = 0 from (hC.state.2 1 _ rfl).1) (show ax_N G (a + 1 + 1) = 6 from (hC.state.2 1 _ rfl).2.1) (by decide)) mlX10_369 ⟨by show d - 1 + 1 ≤ d; omega, by show 40 * (d - 1 + 1) ≤ 40 * d; omega⟩ ⟨Nat.le_refl _, Nat.le_refl _⟩ rfl (Nat.le_of_ble_eq_true rfl) (dk ddX10_many 5 rfl) ?_
  rintro v_ G_ I_ L_ ⟨rfl, rfl, rfl, rfl⟩
  exact x_iret C rfl ⟨rfl, rfl, rfl, rfl⟩ rfl rfl (dk ddX10_many 6 rfl)
set_option maxRecDepth 20000 in
/-- many(1) -/
theorem k_X10_many_1 (l : Launch) (D : va_G) (T : Nat → ClassId) (o d : Nat) (G : ax_G) (I : ax_I) (L : ax_L) (a : Nat) (hC : ax_Cls G a) (hd : 3 ≤ d) : ax_Con l D T o yX10_many cX10_many 2 (some .int) d 0 0 [.ref a, .int (nI 1)] G I L (fun zz G' I' L' => zz = some (.int (ax_smo (I (a + 1 + 2)) 6 (nI 0))) ∧ G = G' ∧ I = I' ∧ L = L') := by
  refine ax_enter (by decide +kernel) (Nat.le_of_ble_eq_true rfl) ?_
  intro p_ e_ s_ m_ args_ below_ meth_ c_ C _
  refine x_lvs (lv' := [(0, .ref a), (1, .int (nI 1))]) rfl ?_
  refine x_iload_n C (dk ddX10_many 0 rfl) rfl ?_
  refine x_tableIn C (off := 54) (tgt := 55) (dk ddX10_many 1 rfl) (by decide) (by decide) (by decide) (by decide) ?_
  refine x_aload_n C (dk ddX10_many 7 rfl) rfl ?_
  refine x_getr C flX10_10 rfl (by have h_ := hC.1; omega) hC.fld.1 (show ax_R G a 0 = some (a + 1) from hC.fld.2.2 (0, 1) (by decide)) (dk ddX10_many 8 rfl) ?_
  refine x_getr C flX10_118 rfl (by have h_ := hC.state.1; omega) (show ax_K G (a + 1) = 8 + 7 from (hC.state.2 0 _ rfl).1) (show ax_R G (a + 1) 1 = some (a + 1 + 2) from (hC.state.2 0 _ rfl).2.2 (1, 2) (by decide)) (dk ddX10_many 9 rfl) ?_
  refine x_callS C (As := [.ref (a + 1 + 2)]) (k_X10_sumOf l D T o (d - 1) G I L (a + 1 + 2) 6 (by have h_ := hC.state.1; omega) (show ax_K G (a + 1 + 2) = 0 from (hC.state.2 2 _ rfl).1) (show ax_N G (a + 1 + 2) = 6 from (hC.state.2 2 _ rfl).2.1) (by decide)) mlX10_369 ⟨by show d - 1 + 1 ≤ d; omega, by show 40 * (d - 1 + 1) ≤ 40 * d; omega⟩ ⟨Nat.le_refl _, Nat.le_refl _⟩ rfl (Nat.le_of_ble_eq_true rfl) (dk ddX10_many 10 rfl) ?_
  rintro v_ G_ I_ L_ ⟨rfl, rfl, rfl, rfl⟩
  exact x_iret C rfl ⟨rfl, rfl, rfl, rfl⟩ rfl rfl (dk ddX10_many 11 rfl)
set_option maxRecDepth 20000 in
/-- many(2) -/
theorem k_X10_many_2 (l : Launch) (D : va_G) (T : Nat → ClassId) (o d : Nat) (G : ax_G) (I : ax_I) (L : ax_L) (a : Nat) (hC : ax_Cls G a) (hd : 3 ≤ d) : ax_Con l D T o yX10_many cX10_many 2 (some .int) d 0 0 [.ref a, .int (nI 2)] G I L (fun zz G' I' L' => zz = some (.int (nI (ax_cm (I (a + 1 + 4)) 8))) ∧ G = G' ∧ I = I' ∧ L = L') := by
  refine ax_enter (by decide +kernel) (Nat.le_of_ble_eq_true rfl) ?_
  intro p_ e_ s_ m_ args_ below_ meth_ c_ C _
  refine x_lvs (lv' := [(0, .ref a), (1, .int (nI 2))]) rfl ?_
  refine x_iload_n C (dk ddX10_many 0 rfl) rfl ?_
  refine x_tableIn C (off := 65) (tgt := 66) (dk ddX10_many 1 rfl) (by decide) (by decide) (by decide) (by decide) ?_
  refine x_aload_n C (dk ddX10_many 12 rfl) rfl ?_
  refine x_getr C flX10_10 rfl (by have h_ := hC.1; omega) hC.fld.1 (show ax_R G a 0 = some (a + 1) from hC.fld.2.2 (0, 1) (by decide)) (dk ddX10_many 13 rfl) ?_
  refine x_callV C (ci := 7) (As := []) (k_X7_countMaps l D T o (d - 1) G I L (a + 1) hC.state (by omega)) mlX10_373 rfl rfl (by have h_ := hC.state.1; omega) (show ax_K G (a + 1) = 8 + 7 from (hC.state.2 0 _ rfl).1) ⟨by show d - 1 + 1 ≤ d; omega, by show 40 * (d - 1 + 1) ≤ 40 * d; omega⟩ ⟨Nat.le_refl _, Nat.le_refl _⟩ rfl (Nat.le_of_ble_eq_true rfl) (dk ddX10_many 14 rfl) ?_
  rintro v_ G_ I_ L_ ⟨rfl, rfl, rfl, rfl⟩
  exact x_iret C rfl ⟨rfl, rfl, rfl, rfl⟩ rfl rfl (dk ddX10_many 15 rfl)
set_option maxRecDepth 20000 in
/-- many(4) -/
theorem k_X10_many_4 (l : Launch) (D : va_G) (T : Nat → ClassId) (o d : Nat) (G : ax_G) (I : ax_I) (L : ax_L) (a : Nat) (hC : ax_Cls G a) (hd : 3 ≤ d) : ax_Con l D T o yX10_many cX10_many 2 (some .int) d 0 0 [.ref a, .int (nI 4)] G I L (fun zz G' I' L' => zz = some (.int (I (a + 1) 6)) ∧ G = G' ∧ I = I' ∧ L = L') := by
  refine ax_enter (by decide +kernel) (Nat.le_of_ble_eq_true rfl) ?_
  intro p_ e_ s_ m_ args_ below_ meth_ c_ C _
  refine x_lvs (lv' := [(0, .ref a), (1, .int (nI 4))]) rfl ?_
  refine x_iload_n C (dk ddX10_many 0 rfl) rfl ?_
  refine x_tableIn C (off := 78) (tgt := 79) (dk ddX10_many 1 rfl) (by decide) (by decide) (by decide) (by decide) ?_
  refine x_aload_n C (dk ddX10_many 19 rfl) rfl ?_
  refine x_getr C flX10_10 rfl (by have h_ := hC.1; omega) hC.fld.1 (show ax_R G a 0 = some (a + 1) from hC.fld.2.2 (0, 1) (by decide)) (dk ddX10_many 20 rfl) ?_
  refine x_geti C flX10_321 rfl (by have h_ := hC.state.1; omega) (show ax_K G (a + 1) = 8 + 7 from (hC.state.2 0 _ rfl).1) (dk ddX10_many 21 rfl) ?_
  exact x_iret C rfl ⟨rfl, rfl, rfl, rfl⟩ rfl rfl (dk ddX10_many 22 rfl)
set_option maxRecDepth 20000 in
/-- many(5) -/
theorem k_X10_many_5 (l : Launch) (D : va_G) (T : Nat → ClassId) (o d : Nat) (G : ax_G) (I : ax_I) (L : ax_L) (a : Nat) (hC : ax_Cls G a) (hd : 3 ≤ d) : ax_Con l D T o yX10_many cX10_many 2 (some .int) d 0 0 [.ref a, .int (nI 5)] G I L (fun zz G' I' L' => zz = some (.int (I (a + 29) 2)) ∧ G = G' ∧ I = I' ∧ L = L') := by
  refine ax_enter (by decide +kernel) (Nat.le_of_ble_eq_true rfl) ?_
  intro p_ e_ s_ m_ args_ below_ meth_ c_ C _
  refine x_lvs (lv' := [(0, .ref a), (1, .int (nI 5))]) rfl ?_
  refine x_iload_n C (dk ddX10_many 0 rfl) rfl ?_
  refine x_tableIn C (off := 86) (tgt := 87) (dk ddX10_many 1 rfl) (by decide) (by decide) (by decide) (by decide) ?_
  refine x_aload_n C (dk ddX10_many 23 rfl) rfl ?_
  refine x_getr C flX10_26 rfl (by have h_ := hC.1; omega) hC.fld.1 (show ax_R G a 3 = some (a + 29) from hC.fld.2.2 (3, 29) (by decide)) (dk ddX10_many 24 rfl) ?_
  refine x_geti C flX10_334 rfl (by have h_ := hC.1; omega) (show ax_K G (a + 29) = 8 + 1 from (hC.history.2 0 _ rfl).1) (dk ddX10_many 25 rfl) ?_
  exact x_iret C rfl ⟨rfl, rfl, rfl, rfl⟩ rfl rfl (dk ddX10_many 26 rfl)
set_option maxRecDepth 20000 in
/-- many(6) -/
theorem k_X10_many_6 (l : Launch) (D : va_G) (T : Nat → ClassId) (o d : Nat) (G : ax_G) (I : ax_I) (L : ax_L) (a : Nat) (hC : ax_Cls G a) (hd : 3 ≤ d) : ax_Con l D T o yX10_many cX10_many 2 (some .int) d 0 0 [.ref a, .int (nI 6)] G I L (fun zz G' I' L' => zz = some (.int (I (a + 311) 1)) ∧ G = G' ∧ I = I' ∧ L = L') := by
  refine ax_enter (by decide +kernel) (Nat.le_of_ble_eq_true rfl) ?_
  intro p_ e_ s_ m_ args_ below_ meth_ c_ C _
  refine x_lvs (lv' := [(0, .ref a), (1, .int (nI 6))]) rfl ?_
  refine x_iload_n C (dk ddX10_many 0 rfl) rfl ?_
  refine x_tableIn C (off := 94) (tgt := 95) (dk ddX10_many 1 rfl) (by decide) (by decide) (by decide) (by decide) ?_
  refine x_aload_n C (dk ddX10_many 27 rfl) rfl ?_
  refine x_getr C flX10_33 rfl (by have h_ := hC.1; omega) hC.fld.1 (show ax_R G a 4 = some (a + 311) from hC.fld.2.2 (4, 311) (by decide)) (dk ddX10_many 28 rfl) ?_
  refine x_geti C flX10_266 rfl (by have h_ := hC.1; omega) (show ax_K G (a + 311) = 8 + 9 from (hC.2 311 (17, 0, [(9, 315), (8, 314), (7, 313), (0, 312)]) (by decide +kernel)).1) (dk ddX10_many 29 rfl) ?_
  exact x_iret C rfl ⟨rfl, rfl, rfl, rfl⟩ rfl rfl (dk ddX10_many 30 rfl)
set_option maxRecDepth 20000 in
/-- many of what is none -/
theorem k_X10_many_bad (l : Launch) (D : va_G) (T : Nat → ClassId) (o d : Nat) (G : ax_G) (I : ax_I) (L : ax_L) (a : Nat) (u : Int32) (hC : ax_Cls G a) (hu : u.toInt < 0 ∨ 6 < u.toInt) (hd : 3 ≤ d) : ax_Con l D T o yX10_many cX10_many 2 (some .int) d 0 0 [.ref a, .int u] G I L (fun zz G' I' L' => zz = some (.int ((-1))) ∧ G = G' ∧ I = I' ∧ L = L') := by
  refine ax_enter (by decide +kernel) (Nat.le_of_ble_eq_true rfl) ?_
  intro p_ e_ s_ m_ args_ below_ meth_ c_ C _
  refine x_lvs (lv' := [(0, .ref a), (1, .int u)]) rfl ?_
  refine x_iload_n C (dk ddX10_many 0 rfl) rfl ?_
  refine x_tableOut C (tgt := 103) (dk ddX10_many 1 rfl) hu (by decide) ?_
  refine x_iconst C (v := (-1)) (dk ddX10_many 31 rfl) (by decide) ?_
  exact x_iret C rfl ⟨rfl, rfl, rfl, rfl⟩ rfl rfl (dk ddX10_many 32 rfl)
