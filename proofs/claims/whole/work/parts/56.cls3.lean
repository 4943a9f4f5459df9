/-! ===== the class: States are copied, History ===== -/
set_option maxRecDepth 20000 in
/-- copyAll(from, to) -/
theorem k_X7_copyAll (l : Launch) (D : va_G) (T : Nat → ClassId) (o d : Nat) (G : ax_G) (I : ax_I) (L : ax_L) (b a n : Nat) (hb : b < ax_top G) (hKb : ax_K G b = 0) (hNb : ax_N G b = n) (ha : a < ax_top G) (hKa : ax_K G a = 0) (hNa : ax_N G a = n) (hn : n < 2 ^ 31) (hd : 1 ≤ d) : ax_Con l D T o yX7_copyAll cX7_copyAll 2 none d 0 0 [.ref b, .ref a] G I L (fun z G' I' L' => z = none ∧ G = G' ∧ ax_cp I b a 0 0 n = I' ∧ L = L') := by
  refine ax_enter (by decide +kernel) (Nat.le_of_ble_eq_true rfl) ?_
  intro p_ e_ s_ m_ args_ below_ meth_ c_ C _
  refine x_lvs (lv' := [(0, .ref b), (1, .ref a)]) rfl ?_
  refine x_aload_n C (dk ddX7_copyAll 0 rfl) rfl ?_
  refine x_iconst C (v := nI 0) (dk ddX7_copyAll 1 rfl) (by decide) ?_
  refine x_aload_n C (dk ddX7_copyAll 2 rfl) rfl ?_
  refine x_iconst C (v := nI 0) (dk ddX7_copyAll 3 rfl) (by decide) ?_
  refine x_aload_n C (dk ddX7_copyAll 4 rfl) rfl ?_
  refine x_alen C (v := nI n) hb hKb (by decide) (by rw [hNb]) (dk ddX7_copyAll 5 rfl) ?_
  refine x_aload_n C (dk ddX7_copyAll 6 rfl) rfl ?_
  refine x_alen C (v := nI n) ha hKa (by decide) (by rw [hNa]) (dk ddX7_copyAll 7 rfl) ?_
  refine x_callS C (As := [.int (nI n), .int (nI n)]) (k_J9_min_7cf53 l D T o (d - 1) G I L (nI n) (nI n)) mlX7_65 ⟨by show d - 1 + 1 ≤ d; omega, by show 40 * (d - 1 + 1) ≤ 40 * d; omega⟩ ⟨Nat.le_refl _, Nat.le_refl _⟩ rfl (Nat.le_of_ble_eq_true rfl) (dk ddX7_copyAll 8 rfl) ?_
  rintro v_ G_ I_ L_ ⟨rfl, rfl, rfl, rfl⟩
  rw [ite_self]
  refine x_copyi C (n := n) (ax_inT 2 162 (by decide +kernel)) (ax_inT 2 164 (by decide +kernel)) (ax_inT 2 163 (by decide +kernel)) (ax_inT 1 15 (by decide +kernel)) hb hKb ha hKa (by rw [hNb]; omega) (by rw [hNa]; omega) (by omega) (by omega) (by omega) ⟨by show 1 ≤ d; omega, by show 40 ≤ 40 * d; omega⟩ (Nat.le_of_ble_eq_true rfl) (dk ddX7_copyAll 9 rfl) ?_
  exact x_vret C rfl ⟨rfl, rfl, rfl, rfl⟩ rfl rfl (dk ddX7_copyAll 10 rfl)
/-- State b's contents come to State a -/
def ax_sc (b a : Nat) (I : ax_I) : ax_I := ax_cp (ax_cp (ax_cp (ax_cp (ax_cp (ax_cp (ax_cp (ax_u (ax_cp (ax_cp (ax_cp (ax_cp (ax_cp (ax_cp I (b + 1) (a + 1) 0 0 6) (b + 2) (a + 2) 0 0 6) (b + 3) (a + 3) 0 0 72) (b + 4) (a + 4) 0 0 8) (b + 5) (a + 5) 0 0 8) (b + 6) (a + 6) 0 0 72) a 6 ((ax_cp (ax_cp (ax_cp (ax_cp (ax_cp (ax_cp I (b + 1) (a + 1) 0 0 6) (b + 2) (a + 2) 0 0 6) (b + 3) (a + 3) 0 0 72) (b + 4) (a + 4) 0 0 8) (b + 5) (a + 5) 0 0 8) (b + 6) (a + 6) 0 0 72) b 6)) (b + 7) (a + 7) 0 0 12) (b + 8) (a + 8) 0 0 12) (b + 9) (a + 9) 0 0 12) (b + 10) (a + 10) 0 0 12) (b + 11) (a + 11) 0 0 12) (b + 12) (a + 12) 0 0 12) (b + 13) (a + 13) 0 0 108
theorem ax_sc_ne {b a q : Nat} {I : ax_I} (h : q < a ∨ a + 14 ≤ q) : ax_sc b a I q = I q := by
  unfold ax_sc
  iterate 7 rw [ax_cp_ne (by omega)]
  rw [ax_u_ne (by omega)]
  iterate 6 rw [ax_cp_ne (by omega)]
set_option maxRecDepth 20000 in
/-- becomeAs(other) -/
theorem k_X7_becomeAs (l : Launch) (D : va_G) (T : Nat → ClassId) (o d : Nat) (G : ax_G) (I : ax_I) (L : ax_L) (a b : Nat) (ha : ax_Sta G a) (hb : ax_Sta G b) (hd : 2 ≤ d) : ax_Con l D T o yX7_becomeAs cX7_becomeAs 2 none d 0 0 [.ref a, .ref b] G I L (fun z G' I' L' => z = none ∧ G = G' ∧ ax_sc b a I = I' ∧ L = L') := by
  refine ax_enter (by decide +kernel) (Nat.le_of_ble_eq_true rfl) ?_
  intro p_ e_ s_ m_ args_ below_ meth_ c_ C _
  refine x_lvs (lv' := [(0, .ref a), (1, .ref b)]) rfl ?_
  refine x_aload_n C (dk ddX7_becomeAs 0 rfl) rfl ?_
  refine x_getr C flX7_9 rfl (by have h_ := hb.1; omega) (show ax_K G b = 8 + 7 from (hb.2 0 _ rfl).1) (show ax_R G b 0 = some (b + 1) from (hb.2 0 _ rfl).2.2 (0, 1) (by decide)) (dk ddX7_becomeAs 1 rfl) ?_
  refine x_aload_n C (dk ddX7_becomeAs 2 rfl) rfl ?_
  refine x_getr C flX7_9 rfl (by have h_ := ha.1; omega) (show ax_K G a = 8 + 7 from (ha.2 0 _ rfl).1) (show ax_R G a 0 = some (a + 1) from (ha.2 0 _ rfl).2.2 (0, 1) (by decide)) (dk ddX7_becomeAs 3 rfl) ?_
  refine x_callS C (As := [.ref (b + 1), .ref (a + 1)]) (k_X7_copyAll l D T o (d - 1) G I L (b + 1) (a + 1) 6 (by have h_ := hb.1; omega) (show ax_K G (b + 1) = 0 from (hb.2 1 _ rfl).1) (show ax_N G (b + 1) = 6 from (hb.2 1 _ rfl).2.1) (by have h_ := ha.1; omega) (show ax_K G (a + 1) = 0 from (ha.2 1 _ rfl).1) (show ax_N G (a + 1) = 6 from (ha.2 1 _ rfl).2.1) (by decide) (by omega)) mlX7_61 ⟨by show d - 1 + 1 ≤ d; omega, by show 40 * (d - 1 + 1) ≤ 40 * d; omega⟩ ⟨Nat.le_refl _, Nat.le_refl _⟩ rfl (Nat.le_of_ble_eq_true rfl) (dk ddX7_becomeAs 4 rfl) ?_
  rintro v_ G_ I_ L_ ⟨rfl, rfl, rfl, rfl⟩
  refine x_aload_n C (dk ddX7_becomeAs 5 rfl) rfl ?_
  refine x_getr C flX7_15 rfl (by have h_ := hb.1; omega) (show ax_K G b = 8 + 7 from (hb.2 0 _ rfl).1) (show ax_R G b 1 = some (b + 2) from (hb.2 0 _ rfl).2.2 (1, 2) (by decide)) (dk ddX7_becomeAs 6 rfl) ?_
  refine x_aload_n C (dk ddX7_becomeAs 7 rfl) rfl ?_
  refine x_getr C flX7_15 rfl (by have h_ := ha.1; omega) (show ax_K G a = 8 + 7 from (ha.2 0 _ rfl).1) (show ax_R G a 1 = some (a + 2) from (ha.2 0 _ rfl).2.2 (1, 2) (by decide)) (dk ddX7_becomeAs 8 rfl) ?_
  refine x_callS C (As := [.ref (b + 2), .ref (a + 2)]) (k_X7_copyAll l D T o (d - 1) G (ax_cp I (b + 1) (a + 1) 0 0 6) L (b + 2) (a + 2) 6 (by have h_ := hb.1; omega) (show ax_K G (b + 2) = 0 from (hb.2 2 _ rfl).1) (show ax_N G (b + 2) = 6 from (hb.2 2 _ rfl).2.1) (by have h_ := ha.1; omega) (show ax_K G (a + 2) = 0 from (ha.2 2 _ rfl).1) (show ax_N G (a + 2) = 6 from (ha.2 2 _ rfl).2.1) (by decide) (by omega)) mlX7_61 ⟨by show d - 1 + 1 ≤ d; omega, by show 40 * (d - 1 + 1) ≤ 40 * d; omega⟩ ⟨Nat.le_refl _, Nat.le_refl _⟩ rfl (Nat.le_of_ble_eq_true rfl) (dk ddX7_becomeAs 9 rfl) ?_
  rintro v_ G_ I_ L_ ⟨rfl, rfl, rfl, rfl⟩
  refine x_aload_n C (dk ddX7_becomeAs 10 rfl) rfl ?_
  refine x_getr C flX7_18 rfl (by have h_ := hb.1; omega) (show ax_K G b = 8 + 7 from (hb.2 0 _ rfl).1) (show ax_R G b 2 = some (b + 3) from (hb.2 0 _ rfl).2.2 (2, 3) (by decide)) (dk ddX7_becomeAs 11 rfl) ?_
  refine x_aload_n C (dk ddX7_becomeAs 12 rfl) rfl ?_
  refine x_getr C flX7_18 rfl (by have h_ := ha.1; omega) (show ax_K G a = 8 + 7 from (ha.2 0 _ rfl).1) (show ax_R G a 2 = some (a + 3) from (ha.2 0 _ rfl).2.2 (2, 3) (by decide)) (dk ddX7_becomeAs 13 rfl) ?_
  refine x_callS C (As := [.ref (b + 3), .ref (a + 3)]) (k_X7_copyAll l D T o (d - 1) G (ax_cp (ax_cp I (b + 1) (a + 1) 0 0 6) (b + 2) (a + 2) 0 0 6) L (b + 3) (a + 3) 72 (by have h_ := hb.1; omega) (show ax_K G (b + 3) = 0 from (hb.2 3 _ rfl).1) (show ax_N G (b + 3) = 72 from (hb.2 3 _ rfl).2.1) (by have h_ := ha.1; omega) (show ax_K G (a + 3) = 0 from (ha.2 3 _ rfl).1) (show ax_N G (a + 3) = 72 from (ha.2 3 _ rfl).2.1) (by decide) (by omega)) mlX7_61 ⟨by show d - 1 + 1 ≤ d; omega, by show 40 * (d - 1 + 1) ≤ 40 * d; omega⟩ ⟨Nat.le_refl _, Nat.le_refl _⟩ rfl (Nat.le_of_ble_eq_true rfl) (dk ddX7_becomeAs 14 rfl) ?_
  rintro v_ G_ I_ L_ ⟨rfl, rfl, rfl, rfl⟩
  refine x_aload_n C (dk ddX7_becomeAs 15 rfl) rfl ?_
  refine x_getr C flX7_21 rfl (by have h_ := hb.1; omega) (show ax_K G b = 8 + 7 from (hb.2 0 _ rfl).1) (show ax_R G b 3 = some (b + 4) from (hb.2 0 _ rfl).2.2 (3, 4) (by decide)) (dk ddX7_becomeAs 16 rfl) ?_
  refine x_aload_n C (dk ddX7_becomeAs 17 rfl) rfl ?_
  refine x_getr C flX7_21 rfl (by have h_ := ha.1; omega) (show ax_K G a = 8 + 7 from (ha.2 0 _ rfl).1) (show ax_R G a 3 = some (a + 4) from (ha.2 0 _ rfl).2.2 (3, 4) (by decide)) (dk ddX7_becomeAs 18 rfl) ?_
  refine x_callS C (As := [.ref (b + 4), .ref (a + 4)]) (k_X7_copyAll l D T o (d - 1) G (ax_cp (ax_cp (ax_cp I (b + 1) (a + 1) 0 0 6) (b + 2) (a + 2) 0 0 6) (b + 3) (a + 3) 0 0 72) L (b + 4) (a + 4) 8 (by have h_ := hb.1; omega) (show ax_K G (b + 4) = 0 from (hb.2 4 _ rfl).1) (show ax_N G (b + 4) = 8 from (hb.2 4 _ rfl).2.1) (by have h_ := ha.1; omega) (show ax_K G (a + 4) = 0 from (ha.2 4 _ rfl).1) (show ax_N G (a + 4) = 8 from (ha.2 4 _ rfl).2.1) (by decide) (by omega)) mlX7_61 ⟨by show d - 1 + 1 ≤ d; omega, by show 40 * (d - 1 + 1) ≤ 40 * d; omega⟩ ⟨Nat.le_refl _, Nat.le_refl _⟩ rfl (Nat.le_of_ble_eq_true rfl) (dk ddX7_becomeAs 19 rfl) ?_
  rintro v_ G_ I_ L_ ⟨rfl, rfl, rfl, rfl⟩
  refine x_aload_n C (dk ddX7_becomeAs 20 rfl) rfl ?_
  refine x_getr C flX7_24 rfl (by have h_ := hb.1; omega) (show ax_K G b = 8 + 7 from (hb.2 0 _ rfl).1) (show ax_R G b 4 = some (b + 5) from (hb.2 0 _ rfl).2.2 (4, 5) (by decide)) (dk ddX7_becomeAs 21 rfl) ?_
  refine x_aload_n C (dk ddX7_becomeAs 22 rfl) rfl ?_
  refine x_getr C flX7_24 rfl (by have h_ := ha.1; omega) (show ax_K G a = 8 + 7 from (ha.2 0 _ rfl).1) (show ax_R G a 4 = some (a + 5) from (ha.2 0 _ rfl).2.2 (4, 5) (by decide)) (dk ddX7_becomeAs 23 rfl) ?_
  refine x_callS C (As := [.ref (b + 5), .ref (a + 5)]) (k_X7_copyAll l D T o (d - 1) G (ax_cp (ax_cp (ax_cp (ax_cp I (b + 1) (a + 1) 0 0 6) (b + 2) (a + 2) 0 0 6) (b + 3) (a + 3) 0 0 72) (b + 4) (a + 4) 0 0 8) L (b + 5) (a + 5) 8 (by have h_ := hb.1; omega) (show ax_K G (b + 5) = 0 from (hb.2 5 _ rfl).1) (show ax_N G (b + 5) = 8 from (hb.2 5 _ rfl).2.1) (by have h_ := ha.1; omega) (show ax_K G (a + 5) = 0 from (ha.2 5 _ rfl).1) (show ax_N G (a + 5) = 8 from (ha.2 5 _ rfl).2.1) (by decide) (by omega)) mlX7_61 ⟨by show d - 1 + 1 ≤ d; omega, by show 40 * (d - 1 + 1) ≤ 40 * d; omega⟩ ⟨Nat.le_refl _, Nat.le_refl _⟩ rfl (Nat.le_of_ble_eq_true rfl) (dk ddX7_becomeAs 24 rfl) ?_
  rintro v_ G_ I_ L_ ⟨rfl, rfl, rfl, rfl⟩
  refine x_aload_n C (dk ddX7_becomeAs 25 rfl) rfl ?_
  refine x_getr C flX7_27 rfl (by have h_ := hb.1; omega) (show ax_K G b = 8 + 7 from (hb.2 0 _ rfl).1) (show ax_R G b 5 = some (b + 6) from (hb.2 0 _ rfl).2.2 (5, 6) (by decide)) (dk ddX7_becomeAs 26 rfl) ?_
  refine x_aload_n C (dk ddX7_becomeAs 27 rfl) rfl ?_
  refine x_getr C flX7_27 rfl (by have h_ := ha.1; omega) (show ax_K G a = 8 + 7 from (ha.2 0 _ rfl).1) (show ax_R G a 5 = some (a + 6) from (ha.2 0 _ rfl).2.2 (5, 6) (by decide)) (dk ddX7_becomeAs 28 rfl) ?_
  refine x_callS C (As := [.ref (b + 6), .ref (a + 6)]) (k_X7_copyAll l D T o (d - 1) G (ax_cp (ax_cp (ax_cp (ax_cp (ax_cp I (b + 1) (a + 1) 0 0 6) (b + 2) (a + 2) 0 0 6) (b + 3) (a + 3) 0 0 72) (b + 4) (a + 4) 0 0 8) (b + 5) (a + 5) 0 0 8) L (b + 6) (a + 6) 72 (by have h_ := hb.1; omega) (show ax_K G (b + 6) = 0 from (hb.2 6 _ rfl).1) (show ax_N G (b + 6) = 72 from (hb.2 6 _ rfl).2.1) (by have h_ := ha.1; omega) (show ax_K G (a + 6) = 0 from (ha.2 6 _ rfl).1) (show ax_N G (a + 6) = 72 from (ha.2 6 _ rfl).2.1) (by decide) (by omega)) mlX7_61 ⟨by show d - 1 + 1 ≤ d; omega, by show 40 * (d - 1 + 1) ≤ 40 * d; omega⟩ ⟨Nat.le_refl _, Nat.le_refl _⟩ rfl (Nat.le_of_ble_eq_true rfl) (dk ddX7_becomeAs 29 rfl) ?_
  rintro v_ G_ I_ L_ ⟨rfl, rfl, rfl, rfl⟩
  refine x_aload_n C (dk ddX7_becomeAs 30 rfl) rfl ?_
  refine x_aload_n C (dk ddX7_becomeAs 31 rfl) rfl ?_
  refine x_geti C flX7_30 rfl (by have h_ := hb.1; omega) (show ax_K G b = 8 + 7 from (hb.2 0 _ rfl).1) (dk ddX7_becomeAs 32 rfl) ?_
  refine x_puti C flX7_30 fw7 rfl rfl (by have h_ := ha.1; omega) (show ax_K G a = 8 + 7 from (ha.2 0 _ rfl).1) rfl rfl (dk ddX7_becomeAs 33 rfl) ?_
  refine x_aload_n C (dk ddX7_becomeAs 34 rfl) rfl ?_
  refine x_getr C flX7_34 rfl (by have h_ := hb.1; omega) (show ax_K G b = 8 + 7 from (hb.2 0 _ rfl).1) (show ax_R G b 7 = some (b + 7) from (hb.2 0 _ rfl).2.2 (7, 7) (by decide)) (dk ddX7_becomeAs 35 rfl) ?_
  refine x_aload_n C (dk ddX7_becomeAs 36 rfl) rfl ?_
  refine x_getr C flX7_34 rfl (by have h_ := ha.1; omega) (show ax_K G a = 8 + 7 from (ha.2 0 _ rfl).1) (show ax_R G a 7 = some (a + 7) from (ha.2 0 _ rfl).2.2 (7, 7) (by decide)) (dk ddX7_becomeAs 37 rfl) ?_
  refine x_callS C (As := [.ref (b + 7), .ref (a + 7)]) (k_X7_copyAll l D T o (d - 1) G (ax_u (ax_cp (ax_cp (ax_cp (ax_cp (ax_cp (ax_cp I (b + 1) (a + 1) 0 0 6) (b + 2) (a + 2) 0 0 6) (b + 3) (a + 3) 0 0 72) (b + 4) (a + 4) 0 0 8) (b + 5) (a + 5) 0 0 8) (b + 6) (a + 6) 0 0 72) a 6 ((ax_cp (ax_cp (ax_cp (ax_cp (ax_cp (ax_cp I (b + 1) (a + 1) 0 0 6) (b + 2) (a + 2) 0 0 6) (b + 3) (a + 3) 0 0 72) (b + 4) (a + 4) 0 0 8) (b + 5) (a + 5) 0 0 8) (b + 6) (a + 6) 0 0 72) b 6)) L (b + 7) (a + 7) 12 (by have h_ := hb.1; omega) (show ax_K G (b + 7) = 0 from (hb.2 7 _ rfl).1) (show ax_N G (b + 7) = 12 from (hb.2 7 _ rfl).2.1) (by have h_ := ha.1; omega) (show ax_K G (a + 7) = 0 from (ha.2 7 _ rfl).1) (show ax_N G (a + 7) = 12 from (ha.2 7 _ rfl).2.1) (by decide) (by omega)) mlX7_61 ⟨by show d - 1 + 1 ≤ d; omega, by show 40 * (d - 1 + 1) ≤ 40 * d; omega⟩ ⟨Nat.le_refl _, Nat.le_refl _⟩ rfl (Nat.le_of_ble_eq_true rfl) (dk ddX7_becomeAs 38 rfl) ?_
  rintro v_ G_ I_ L_ ⟨rfl, rfl, rfl, rfl⟩
  refine x_aload_n C (dk ddX7_becomeAs 39 rfl) rfl ?_
  refine x_getr C flX7_37 rfl (by have h_ := hb.1; omega) (show ax_K G b = 8 + 7 from (hb.2 0 _ rfl).1) (show ax_R G b 8 = some (b + 8) from (hb.2 0 _ rfl).2.2 (8, 8) (by decide)) (dk ddX7_becomeAs 40 rfl) ?_
  refine x_aload_n C (dk ddX7_becomeAs 41 rfl) rfl ?_
  refine x_getr C flX7_37 rfl (by have h_ := ha.1; omega) (show ax_K G a = 8 + 7 from (ha.2 0 _ rfl).1) (show ax_R G a 8 = some (a + 8) from (ha.2 0 _ rfl).2.2 (8, 8) (by decide)) (dk ddX7_becomeAs 42 rfl) ?_
  refine x_callS C (As := [.ref (b + 8), .ref (a + 8)]) (k_X7_copyAll l D T o (d - 1) G (ax_cp (ax_u (ax_cp (ax_cp (ax_cp (ax_cp (ax_cp (ax_cp I (b + 1) (a + 1) 0 0 6) (b + 2) (a + 2) 0 0 6) (b + 3) (a + 3) 0 0 72) (b + 4) (a + 4) 0 0 8) (b + 5) (a + 5) 0 0 8) (b + 6) (a + 6) 0 0 72) a 6 ((ax_cp (ax_cp (ax_cp (ax_cp (ax_cp (ax_cp I (b + 1) (a + 1) 0 0 6) (b + 2) (a + 2) 0 0 6) (b + 3) (a + 3) 0 0 72) (b + 4) (a + 4) 0 0 8) (b + 5) (a + 5) 0 0 8) (b + 6) (a + 6) 0 0 72) b 6)) (b + 7) (a + 7) 0 0 12) L (b + 8) (a + 8) 12 (by have h_ := hb.1; omega) (show ax_K G (b + 8) = 0 from (hb.2 8 _ rfl).1) (show ax_N G (b + 8) = 12 from (hb.2 8 _ rfl).2.1) (by have h_ := ha.1; omega) (show ax_K G (a + 8) = 0 from (ha.2 8 _ rfl).1) (show ax_N G (a + 8) = 12 from (ha.2 8 _ rfl).2.1) (by decide) (by omega)) mlX7_61 ⟨by show d - 1 + 1 ≤ d; omega, by show 40 * (d - 1 + 1) ≤ 40 * d; omega⟩ ⟨Nat.le_refl _, Nat.le_refl _⟩ rfl (Nat.le_of_ble_eq_true rfl) (dk ddX7_becomeAs 43 rfl) ?_
  rintro v_ G_ I_ L_ ⟨rfl, rfl, rfl, rfl⟩
  refine x_aload_n C (dk ddX7_becomeAs 44 rfl) rfl ?_
  refine x_getr C flX7_40 rfl (by have h_ := hb.1; omega) (show ax_K G b = 8 + 7 from (hb.2 0 _ rfl).1) (show ax_R G b 9 = some (b + 9) from (hb.2 0 _ rfl).2.2 (9, 9) (by decide)) (dk ddX7_becomeAs 45 rfl) ?_
  refine x_aload_n C (dk ddX7_becomeAs 46 rfl) rfl ?_
  refine x_getr C flX7_40 rfl (by have h_ := ha.1; omega) (show ax_K G a = 8 + 7 from (ha.2 0 _ rfl).1) (show ax_R G a 9 = some (a + 9) from (ha.2 0 _ rfl).2.2 (9, 9) (by decide)) (dk ddX7_becomeAs 47 rfl) ?_
  refine x_callS C (As := [.ref (b + 9), .ref (a + 9)]) (k_X7_copyAll l D T o (d - 1) G (ax_cp (ax_cp (ax_u (ax_cp (ax_cp (ax_cp (ax_cp (ax_cp (ax_cp I (b + 1) (a + 1) 0 0 6) (b + 2) (a + 2) 0 0 6) (b + 3) (a + 3) 0 0 72) (b + 4) (a + 4) 0 0 8) (b + 5) (a + 5) 0 0 8) (b + 6) (a + 6) 0 0 72) a 6 ((ax_cp (ax_cp (ax_cp (ax_cp (ax_cp (ax_cp I (b + 1) (a + 1) 0 0 6) (b + 2) (a + 2) 0 0 6) (b + 3) (a + 3) 0 0 72) (b + 4) (a + 4) 0 0 8) (b + 5) (a + 5) 0 0 8) (b + 6) (a + 6) 0 0 72) b 6)) (b + 7) (a + 7) 0 0 12) (b + 8) (a + 8) 0 0 12) L (b + 9) (a + 9) 12 (by have h_ := hb.1; omega) (show ax_K G (b + 9) = 0 from (hb.2 9 _ rfl).1) (show ax_N G (b + 9) = 12 from (hb.2 9 _ rfl).2.1) (by have h_ := ha.1; omega) (show ax_K G (a + 9) = 0 from (ha.2 9 _ rfl).1) (show ax_N G (a + 9) = 12 from (ha.2 9 _ rfl).2.1) (by decide) (by omega)) mlX7_61 ⟨by show d - 1 + 1 ≤ d; omega, by show 40 * (d - 1 + 1) ≤ 40 * d; omega⟩ ⟨Nat.le_refl _, Nat.le_refl _⟩ rfl (Nat.le_of_ble_eq_true rfl) (dk ddX7_becomeAs 48 rfl) ?_
  rintro v_ G_ I_ L_ ⟨rfl, rfl, rfl, rfl⟩
  refine x_aload_n C (dk ddX7_becomeAs 49 rfl) rfl ?_
  refine x_getr C flX7_43 rfl (by have h_ := hb.1; omega) (show ax_K G b = 8 + 7 from (hb.2 0 _ rfl).1) (show ax_R G b 10 = some (b + 10) from (hb.2 0 _ rfl).2.2 (10, 10) (by decide)) (dk ddX7_becomeAs 50 rfl) ?_
  refine x_aload_n C (dk ddX7_becomeAs 51 rfl) rfl ?_
  refine x_getr C flX7_43 rfl (by have h_ := ha.1; omega) (show ax_K G a = 8 + 7 from (ha.2 0 _ rfl).1) (show ax_R G a 10 = some (a + 10) from (ha.2 0 _ rfl).2.2 (10, 10) (by decide)) (dk ddX7_becomeAs 52 rfl) ?_
  refine x_callS C (As := [.ref (b + 10), .ref (a + 10)]) (k_X7_copyAll l D T o (d - 1) G (ax_cp (ax_cp (ax_cp (ax_u (ax_cp (ax_cp (ax_cp (ax_cp (ax_cp (ax_cp I (b + 1) (a + 1) 0 0 6) (b + 2) (a + 2) 0 0 6) (b + 3) (a + 3) 0 0 72) (b + 4) (a + 4) 0 0 8) (b + 5) (a + 5) 0 0 8) (b + 6) (a + 6) 0 0 72) a 6 ((ax_cp (ax_cp (ax_cp (ax_cp (ax_cp (ax_cp I (b + 1) (a + 1) 0 0 6) (b + 2) (a + 2) 0 0 6) (b + 3) (a + 3) 0 0 72) (b + 4) (a + 4) 0 0 8) (b + 5) (a + 5) 0 0 8) (b + 6) (a + 6) 0 0 72) b 6)) (b + 7) (a + 7) 0 0 12) (b + 8) (a + 8) 0 0 12) (b + 9) (a + 9) 0 0 12) L (b + 10) (a + 10) 12 (by have h_ := hb.1; omega) (show ax_K G (b + 10) = 0 from (hb.2 10 _ rfl).1) (show ax_N G (b + 10) = 12 from (hb.2 10 _ rfl).2.1) (by have h_ := ha.1; omega) (show ax_K G (a + 10) = 0 from (ha.2 10 _ rfl).1) (show ax_N G (a + 10) = 12 from (ha.2 10 _ rfl).2.1) (by decide) (by omega)) mlX7_61 ⟨by show d - 1 + 1 ≤ d; omega, by show 40 * (d - 1 + 1) ≤ 40 * d; omega⟩ ⟨Nat.le_refl _, Nat.le_refl _⟩ rfl (Nat.le_of_ble_eq_true rfl) (dk ddX7_becomeAs 53 rfl) ?_
  rintro v_ G_ I_ L_ ⟨rfl, rfl, rfl, rfl⟩
  refine x_aload_n C (dk ddX7_becomeAs 54 rfl) rfl ?_
  refine x_getr C flX7_46 rfl (by have h_ := hb.1; omega) (show ax_K G b = 8 + 7 from (hb.2 0 _ rfl).1) (show ax_R G b 11 = some (b + 11) from (hb.2 0 _ rfl).2.2 (11, 11) (by decide)) (dk ddX7_becomeAs 55 rfl) ?_
  refine x_aload_n C (dk ddX7_becomeAs 56 rfl) rfl ?_
  refine x_getr C flX7_46 rfl (by have h_ := ha.1; omega) (show ax_K G a = 8 + 7 from (ha.2 0 _ rfl).1) (show ax_R G a 11 = some (a + 11) from (ha.2 0 _ rfl).2.2 (11, 11) (by decide)) (dk ddX7_becomeAs 57 rfl) ?_
  refine x_callS C (As := [.ref (b + 11), .ref (a + 11)]) (k_X7_copyAll l D T o (d - 1) G (ax_cp (ax_cp (ax_cp (ax_cp (ax_u (ax_cp (ax_cp (ax_cp (ax_cp (ax_cp (ax_cp I (b + 1) (a + 1) 0 0 6) (b + 2) (a + 2) 0 0 6) (b + 3) (a + 3) 0 0 72) (b + 4) (a + 4) 0 0 8) (b + 5) (a + 5) 0 0 8) (b + 6) (a + 6) 0 0 72) a 6 ((ax_cp (ax_cp (ax_cp (ax_cp (ax_cp (ax_cp I (b + 1) (a + 1) 0 0 6) (b + 2) (a + 2) 0 0 6) (b + 3) (a + 3) 0 0 72) (b + 4) (a + 4) 0 0 8) (b + 5) (a + 5) 0 0 8) (b + 6) (a + 6) 0 0 72) b 6)) (b + 7) (a + 7) 0 0 12) (b + 8) (a + 8) 0 0 12) (b + 9) (a + 9) 0 0 12) (b + 10) (a + 10) 0 0 12) L (b + 11) (a + 11) 12 (by have h_ := hb.1; omega) (show ax_K G (b + 11) = 0 from (hb.2 11 _ rfl).1) (show ax_N G (b + 11) = 12 from (hb.2 11 _ rfl).2.1) (by have h_ := ha.1; omega) (show ax_K G (a + 11) = 0 from (ha.2 11 _ rfl).1) (show ax_N G (a + 11) = 12 from (ha.2 11 _ rfl).2.1) (by decide) (by omega)) mlX7_61 ⟨by show d - 1 + 1 ≤ d; omega, by show 40 * (d - 1 + 1) ≤ 40 * d; omega⟩ ⟨Nat.le_refl _, Nat.le_refl _⟩ rfl (Nat.le_of_ble_eq_true rfl) (dk ddX7_becomeAs 58 rfl) ?_
  rintro v_ G_ I_ L_ ⟨rfl, rfl, rfl, rfl⟩
  refine x_aload_n C (dk ddX7_becomeAs 59 rfl) rfl ?_
  refine x_getr C flX7_49 rfl (by have h_ := hb.1; omega) (show ax_K G b = 8 + 7 from (hb.2 0 _ rfl).1) (show ax_R G b 12 = some (b + 12) from (hb.2 0 _ rfl).2.2 (12, 12) (by decide)) (dk ddX7_becomeAs 60 rfl) ?_
  refine x_aload_n C (dk ddX7_becomeAs 61 rfl) rfl ?_
  refine x_getr C flX7_49 rfl (by have h_ := ha.1; omega) (show ax_K G a = 8 + 7 from (ha.2 0 _ rfl).1) (show ax_R G a 12 = some (a + 12) from (ha.2 0 _ rfl).2.2 (12, 12) (by decide)) (dk ddX7_becomeAs 62 rfl) ?_
  refine x_callS C (As := [.ref (b + 12), .ref (a + 12)]) (k_X7_copyAll l D T o (d - 1) G (ax_cp (ax_cp (ax_cp (ax_cp (ax_cp (ax_u (ax_cp (ax_cp (ax_cp (ax_cp (ax_cp (ax_cp I (b + 1) (a + 1) 0 0 6) (b + 2) (a + 2) 0 0 6) (b + 3) (a + 3) 0 0 72) (b + 4) (a + 4) 0 0 8) (b + 5) (a + 5) 0 0 8) (b + 6) (a + 6) 0 0 72) a 6 ((ax_cp (ax_cp (ax_cp (ax_cp (ax_cp (ax_cp I (b + 1) (a + 1) 0 0 6) (b + 2) (a + 2) 0 0 6) (b + 3) (a + 3) 0 0 72) (b + 4) (a + 4) 0 0 8) (b + 5) (a + 5) 0 0 8) (b + 6) (a + 6) 0 0 72) b 6)) (b + 7) (a + 7) 0 0 12) (b + 8) (a + 8) 0 0 12) (b + 9) (a + 9) 0 0 12) (b + 10) (a + 10) 0 0 12) (b + 11) (a + 11) 0 0 12) L (b + 12) (a + 12) 12 (by have h_ := hb.1; omega) (show ax_K G (b + 12) = 0 from (hb.2 12 _ rfl).1) (show ax_N G (b + 12) = 12 from (hb.2 12 _ rfl).2.1) (by have h_ := ha.1; omega) (show ax_K G (a + 12) = 0 from (ha.2 12 _ rfl).1) (show ax_N G (a + 12) = 12 from (ha.2 12 _ rfl).2.1) (by decide) (by omega)) mlX7_61 ⟨by show d - 1 + 1 ≤ d; omega, by show 40 * (d - 1 + 1) ≤ 40 * d; omega⟩ ⟨Nat.le_refl _, Nat.le_refl _⟩ rfl (Nat.le_of_ble_eq_true rfl) (dk ddX7_becomeAs 63 rfl) ?_
  rintro v_ G_ I_ L_ ⟨rfl, rfl, rfl, rfl⟩
  refine x_aload_n C (dk ddX7_becomeAs 64 rfl) rfl ?_
  refine x_getr C flX7_52 rfl (by have h_ := hb.1; omega) (show ax_K G b = 8 + 7 from (hb.2 0 _ rfl).1) (show ax_R G b 13 = some (b + 13) from (hb.2 0 _ rfl).2.2 (13, 13) (by decide)) (dk ddX7_becomeAs 65 rfl) ?_
  refine x_aload_n C (dk ddX7_becomeAs 66 rfl) rfl ?_
  refine x_getr C flX7_52 rfl (by have h_ := ha.1; omega) (show ax_K G a = 8 + 7 from (ha.2 0 _ rfl).1) (show ax_R G a 13 = some (a + 13) from (ha.2 0 _ rfl).2.2 (13, 13) (by decide)) (dk ddX7_becomeAs 67 rfl) ?_
  refine x_callS C (As := [.ref (b + 13), .ref (a + 13)]) (k_X7_copyAll l D T o (d - 1) G (ax_cp (ax_cp (ax_cp (ax_cp (ax_cp (ax_cp (ax_u (ax_cp (ax_cp (ax_cp (ax_cp (ax_cp (ax_cp I (b + 1) (a + 1) 0 0 6) (b + 2) (a + 2) 0 0 6) (b + 3) (a + 3) 0 0 72) (b + 4) (a + 4) 0 0 8) (b + 5) (a + 5) 0 0 8) (b + 6) (a + 6) 0 0 72) a 6 ((ax_cp (ax_cp (ax_cp (ax_cp (ax_cp (ax_cp I (b + 1) (a + 1) 0 0 6) (b + 2) (a + 2) 0 0 6) (b + 3) (a + 3) 0 0 72) (b + 4) (a + 4) 0 0 8) (b + 5) (a + 5) 0 0 8) (b + 6) (a + 6) 0 0 72) b 6)) (b + 7) (a + 7) 0 0 12) (b + 8) (a + 8) 0 0 12) (b + 9) (a + 9) 0 0 12) (b + 10) (a + 10) 0 0 12) (b + 11) (a + 11) 0 0 12) (b + 12) (a + 12) 0 0 12) L (b + 13) (a + 13) 108 (by have h_ := hb.1; omega) (show ax_K G (b + 13) = 0 from (hb.2 13 _ rfl).1) (show ax_N G (b + 13) = 108 from (hb.2 13 _ rfl).2.1) (by have h_ := ha.1; omega) (show ax_K G (a + 13) = 0 from (ha.2 13 _ rfl).1) (show ax_N G (a + 13) = 108 from (ha.2 13 _ rfl).2.1) (by decide) (by omega)) mlX7_61 ⟨by show d - 1 + 1 ≤ d; omega, by show 40 * (d - 1 + 1) ≤ 40 * d; omega⟩ ⟨Nat.le_refl _, Nat.le_refl _⟩ rfl (Nat.le_of_ble_eq_true rfl) (dk ddX7_becomeAs 68 rfl) ?_
  rintro v_ G_ I_ L_ ⟨rfl, rfl, rfl, rfl⟩
  exact x_vret C rfl ⟨rfl, rfl, rfl, rfl⟩ rfl rfl (dk ddX7_becomeAs 69 rfl)
/-- a History: itself, its row, its 20 States -/
def ax_His (G : ax_G) (r : Nat) : Prop := r + 282 ≤ ax_top G ∧ ax_At G r tX1
theorem ax_At.part {G : ax_G} {a p : Nat} {T T2 : ax_Tb} (h : ax_At G a T) (hs : ∀ j, j < T2.length → T[p + j]? = (ax_shf p T2)[j]?) : ax_At G (a + p) T2 := by
  intro j x hx
  have hj : j < T2.length := (List.getElem?_eq_some_iff.mp hx).1
  have h1 := hs j hj
  unfold ax_shf at h1
  rw [List.getElem?_map, hx] at h1
  obtain ⟨e1, e2, e3⟩ := h (p + j) _ h1
  rw [← Nat.add_assoc] at e1 e2 e3
  refine ⟨e1, e2, fun q hq => ?_⟩
  have := e3 (q.1, p + q.2) (List.mem_map.mpr ⟨q, hq, rfl⟩)
  rw [this, Nat.add_assoc]
theorem ax_His.el {G : ax_G} {r c : Nat} (h : ax_His G r) (hc : c < 20) : ax_R G (r + 1) c = some (r + (2 + 14 * c)) ∧ ax_Sta G (r + (2 + 14 * c)) := by
  obtain ⟨h1, h2⟩ := h
  have k1 : ∀ c, c < 20 → (match tX1[1]? with | some x => x.2.2.contains (c, 2 + 14 * c) | none => false) = true := by decide +kernel
  have k2 : ∀ c, c < 20 → ((List.range 14).all fun j => decide (tX1[2 + 14 * c + j]? = (ax_shf (2 + 14 * c) tX7)[j]?)) = true := by decide +kernel
  refine ⟨?_, ⟨by omega, h2.part fun j hj => of_decide_eq_true (List.all_eq_true.mp (k2 c hc) j (List.mem_range.mpr hj))⟩⟩
  have k3 := k1 c hc
  cases hx : tX1[1]? with
  | none => rw [hx] at k3; cases k3
  | some x =>
    rw [hx] at k3
    exact (h2 1 x hx).2.2 (c, 2 + 14 * c) (by simpa using k3)
set_option maxRecDepth 20000 in
/-- remember(state) -/
theorem k_X1_remember (l : Launch) (D : va_G) (T : Nat → ClassId) (o d : Nat) (G : ax_G) (I : ax_I) (L : ax_L) (r b c k : Nat) (hr : ax_His G r) (hb : ax_Sta G b) (hc : I r 1 = nI c) (hk : I r 2 = nI k) (hc2 : c < 20) (hk2 : k ≤ 20) (hd : 3 ≤ d) : ax_Con l D T o yX1_remember cX1_remember 2 none d 0 0 [.ref r, .ref b] G I L (fun z G' I' L' => z = none ∧ G = G' ∧ ax_u (ax_u (ax_sc b (r + (2 + 14 * c)) I) r 1 (nI ((c + 1) % 20))) r 2 (if nI 20 < nI (k + 1) then nI 20 else nI (k + 1)) = I' ∧ L = L') := by
  refine ax_enter (by decide +kernel) (Nat.le_of_ble_eq_true rfl) ?_
  intro p_ e_ s_ m_ args_ below_ meth_ c_ C _
  refine x_lvs (lv' := [(0, .ref r), (1, .ref b)]) rfl ?_
  refine x_aload_n C (dk ddX1_remember 0 rfl) rfl ?_
  refine x_getr C flX1_11 rfl (by have h_ := hr.1; omega) (show ax_K G r = 8 + 1 from (hr.2 0 _ rfl).1) (show ax_R G r 0 = some (r + 1) from (hr.2 0 _ rfl).2.2 (0, 1) (by decide)) (dk ddX1_remember 1 rfl) ?_
  refine x_aload_n C (dk ddX1_remember 2 rfl) rfl ?_
  refine x_geti C flX1_17 rfl (by have h_ := hr.1; omega) (show ax_K G r = 8 + 1 from (hr.2 0 _ rfl).1) (dk ddX1_remember 3 rfl) ?_
  rw [show (I r 1) = nI c from (by first | exact hc | (rw [ax_sc_ne (by omega)]; exact hc) | (rw [ax_u_nj (by decide)]; exact hc) | (rw [ax_u_nj (by decide), ax_sc_ne (by omega)]; exact hc) | exact ax_u_at _ _ _ _ | (rw [ax_u_nj (by decide)]; exact ax_u_at _ _ _ _))]
  refine x_aald3_n C (by have h_ := hr.1; omega) (show ax_K G (r + 1) = 3 from (hr.2 1 _ rfl).1) (show ax_N G (r + 1) = 20 from (hr.2 1 _ rfl).2.1) (by omega) (by decide) (ax_His.el hr (c := c) (by omega)).1 (dk ddX1_remember 4 rfl) ?_
  refine x_aload_n C (dk ddX1_remember 5 rfl) rfl ?_
  refine x_callV C (ci := 7) (As := [.ref b]) (k_X7_becomeAs l D T o (d - 1) G I L (r + (2 + 14 * c)) b (ax_His.el hr (c := c) (by omega)).2 hb (by omega)) mlX1_25 rfl rfl (by have h_ := (ax_His.el hr (c := c) (by omega)).2.1; omega) (show ax_K G (r + (2 + 14 * c)) = 8 + 7 from ((ax_His.el hr (c := c) (by omega)).2.2 0 _ rfl).1) ⟨by show d - 1 + 1 ≤ d; omega, by show 40 * (d - 1 + 1) ≤ 40 * d; omega⟩ ⟨Nat.le_refl _, Nat.le_refl _⟩ rfl (Nat.le_of_ble_eq_true rfl) (dk ddX1_remember 6 rfl) ?_
  rintro v_ G_ I_ L_ ⟨rfl, rfl, rfl, rfl⟩
  refine x_aload_n C (dk ddX1_remember 7 rfl) rfl ?_
  refine x_aload_n C (dk ddX1_remember 8 rfl) rfl ?_
  refine x_geti C flX1_17 rfl (by have h_ := hr.1; omega) (show ax_K G r = 8 + 1 from (hr.2 0 _ rfl).1) (dk ddX1_remember 9 rfl) ?_
  rw [show ((ax_sc b (r + (2 + 14 * c)) I) r 1) = nI c from (by first | exact hc | (rw [ax_sc_ne (by omega)]; exact hc) | (rw [ax_u_nj (by decide)]; exact hc) | (rw [ax_u_nj (by decide), ax_sc_ne (by omega)]; exact hc) | exact ax_u_at _ _ _ _ | (rw [ax_u_nj (by decide)]; exact ax_u_at _ _ _ _))]
  refine x_iconst C (v := nI 1) (dk ddX1_remember 10 rfl) (by decide) ?_
  refine x_iadd_n C (dk ddX1_remember 11 rfl) ?_
  refine x_bipush C (v := nI 20) (dk ddX1_remember 12 rfl) (by decide) ?_
  refine x_irem_n C (dk ddX1_remember 13 rfl) (by omega) (by omega) (by omega) ?_
  refine x_puti C flX1_17 fw1 rfl rfl (by have h_ := hr.1; omega) (show ax_K G r = 8 + 1 from (hr.2 0 _ rfl).1) rfl rfl (dk ddX1_remember 14 rfl) ?_
  refine x_aload_n C (dk ddX1_remember 15 rfl) rfl ?_
  refine x_aload_n C (dk ddX1_remember 16 rfl) rfl ?_
  refine x_geti C flX1_21 rfl (by have h_ := hr.1; omega) (show ax_K G r = 8 + 1 from (hr.2 0 _ rfl).1) (dk ddX1_remember 17 rfl) ?_
  rw [show ((ax_u (ax_sc b (r + (2 + 14 * c)) I) r 1 (nI ((c + 1) % 20))) r 2) = nI k from (by first | exact hk | (rw [ax_sc_ne (by omega)]; exact hk) | (rw [ax_u_nj (by decide)]; exact hk) | (rw [ax_u_nj (by decide), ax_sc_ne (by omega)]; exact hk) | exact ax_u_at _ _ _ _ | (rw [ax_u_nj (by decide)]; exact ax_u_at _ _ _ _))]
  refine x_iconst C (v := nI 1) (dk ddX1_remember 18 rfl) (by decide) ?_
  refine x_iadd_n C (dk ddX1_remember 19 rfl) ?_
  refine x_bipush C (v := nI 20) (dk ddX1_remember 20 rfl) (by decide) ?_
  refine x_callS C (As := [.int (nI (k + 1)), .int (nI 20)]) (k_J9_min_7cf53 l D T o (d - 1) G (ax_u (ax_sc b (r + (2 + 14 * c)) I) r 1 (nI ((c + 1) % 20))) L (nI (k + 1)) (nI 20)) mlX1_29 ⟨by show d - 1 + 1 ≤ d; omega, by show 40 * (d - 1 + 1) ≤ 40 * d; omega⟩ ⟨Nat.le_refl _, Nat.le_refl _⟩ rfl (Nat.le_of_ble_eq_true rfl) (dk ddX1_remember 21 rfl) ?_
  rintro v_ G_ I_ L_ ⟨rfl, rfl, rfl, rfl⟩
  refine x_puti C flX1_21 fw1 rfl rfl (by have h_ := hr.1; omega) (show ax_K G r = 8 + 1 from (hr.2 0 _ rfl).1) rfl rfl (dk ddX1_remember 22 rfl) ?_
  exact x_vret C rfl ⟨rfl, rfl, rfl, rfl⟩ rfl rfl (dk ddX1_remember 23 rfl)
