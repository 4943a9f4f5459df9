/-! ===== the class: undo, group, takeRelation ===== -/
theorem ax_rng_ok {j h : Nat} (hj : j < h) (hh : h < 2 ^ 31) : ax_rng (nI j) (nI h) = true := by
  have h1 := nI_pos (n := j) (by omega)
  have h2 : ¬ nI h ≤ nI j := fun q => by have := (nI_leI (by omega) (by omega)).mp q; omega
  simp [ax_rng, h1, h2, Int32.not_le.mp h2]
set_option maxRecDepth 20000 in
/-- undo, nothing to undo -/
theorem k_X10_undo_none (l : Launch) (D : va_G) (T : Nat → ClassId) (o d : Nat) (G : ax_G) (I : ax_I) (L : ax_L) (a : Nat) (hC : ax_Cls G a) (hk : I (a + 29) 2 = nI 0) : ax_Con l D T o yX10_undo cX10_undo 1 (some .int) d 0 0 [.ref a] G I L (ax_pure G I L (.int (-3))) := by
  refine ax_enter (by decide +kernel) (Nat.le_of_ble_eq_true rfl) ?_
  intro p_ e_ s_ m_ args_ below_ meth_ c_ C _
  refine x_lvs (lv' := [(0, .ref a)]) rfl ?_
  refine x_aload_n C (dk ddX10_undo 0 rfl) rfl ?_
  refine x_getr C flX10_26 rfl (by have h_ := hC.1; omega) hC.fld.1 (show ax_R G a 3 = some (a + 29) from hC.fld.2.2 (3, 29) (by decide)) (dk ddX10_undo 1 rfl) ?_
  refine x_geti C flX10_334 rfl (by have h_ := hC.1; omega) (show ax_K G (a + 29) = 8 + 1 from (hC.history.2 0 _ rfl).1) (dk ddX10_undo 2 rfl) ?_
  rw [show (I (a + 29) 2) = nI 0 from hk]
  refine x_if_ne_n C (tgt := 13) (dk ddX10_undo 3 rfl) (by decide) (by decide) (fun h_ => absurd h_ (by decide)) (fun _ => ?_)
  refine x_bipush C (v := (-3)) (dk ddX10_undo 4 rfl) (by decide) ?_
  exact x_iret C rfl (ax_pure_i rfl) rfl rfl (dk ddX10_undo 5 rfl)
set_option maxRecDepth 20000 in
/-- undo() -/
theorem k_X10_undo (l : Launch) (D : va_G) (T : Nat → ClassId) (o d : Nat) (G : ax_G) (I : ax_I) (L : ax_L) (a c k : Nat) (hC : ax_Cls G a) (hc : I (a + 29) 1 = nI c) (hk : I (a + 29) 2 = nI k) (hc2 : c < 20) (hk2 : k ≤ 20) (hk1 : 0 < k) (hd : 4 ≤ d) : ax_Con l D T o yX10_undo cX10_undo 1 (some .int) d 0 0 [.ref a] G I L (fun z G' I' L' => z = some (.int (nI (k - 1))) ∧ G = G' ∧ ax_sc (a + 29 + (2 + 14 * ((c + 20 - 1) % 20))) (a + 1) (ax_u (ax_u I (a + 29) 1 (nI ((c + 20 - 1) % 20))) (a + 29) 2 (nI (k - 1))) = I' ∧ L = L') := by
  refine ax_enter (by decide +kernel) (Nat.le_of_ble_eq_true rfl) ?_
  intro p_ e_ s_ m_ args_ below_ meth_ c_ C _
  refine x_lvs (lv' := [(0, .ref a)]) rfl ?_
  refine x_aload_n C (dk ddX10_undo 0 rfl) rfl ?_
  refine x_getr C flX10_26 rfl (by have h_ := hC.1; omega) hC.fld.1 (show ax_R G a 3 = some (a + 29) from hC.fld.2.2 (3, 29) (by decide)) (dk ddX10_undo 1 rfl) ?_
  refine x_geti C flX10_334 rfl (by have h_ := hC.1; omega) (show ax_K G (a + 29) = 8 + 1 from (hC.history.2 0 _ rfl).1) (dk ddX10_undo 2 rfl) ?_
  rw [show (I (a + 29) 2) = nI k from hk]
  refine x_if_ne_n C (tgt := 13) (dk ddX10_undo 3 rfl) (by decide) (by omega) (fun h7 => ?_) (fun h7 => ?_)
  · refine x_aload_n C (dk ddX10_undo 6 rfl) rfl ?_
    refine x_getr C flX10_26 rfl (by have h_ := hC.1; omega) hC.fld.1 (show ax_R G a 3 = some (a + 29) from hC.fld.2.2 (3, 29) (by decide)) (dk ddX10_undo 7 rfl) ?_
    refine x_aload_n C (dk ddX10_undo 8 rfl) rfl ?_
    refine x_getr C flX10_10 rfl (by have h_ := hC.1; omega) hC.fld.1 (show ax_R G a 0 = some (a + 1) from hC.fld.2.2 (0, 1) (by decide)) (dk ddX10_undo 9 rfl) ?_
    refine x_callV C (ci := 1) (As := [.ref (a + 1)]) (k_X1_bringBack l D T o (d - 1) G I L (a + 29) (a + 1) c k hC.history hC.state hc hk hc2 hk2 hk1 (by omega)) mlX10_335 rfl rfl (by have h_ := hC.1; omega) (show ax_K G (a + 29) = 8 + 1 from (hC.history.2 0 _ rfl).1) ⟨by show d - 1 + 1 ≤ d; omega, by show 40 * (d - 1 + 1) ≤ 40 * d; omega⟩ ⟨Nat.le_refl _, Nat.le_refl _⟩ rfl (Nat.le_of_ble_eq_true rfl) (dk ddX10_undo 10 rfl) ?_
    rintro v_ G_ I_ L_ ⟨rfl, rfl, rfl, rfl⟩
    refine x_aload_n C (dk ddX10_undo 11 rfl) rfl ?_
    refine x_getr C flX10_26 rfl (by have h_ := hC.1; omega) hC.fld.1 (show ax_R G a 3 = some (a + 29) from hC.fld.2.2 (3, 29) (by decide)) (dk ddX10_undo 12 rfl) ?_
    refine x_geti C flX10_334 rfl (by have h_ := hC.1; omega) (show ax_K G (a + 29) = 8 + 1 from (hC.history.2 0 _ rfl).1) (dk ddX10_undo 13 rfl) ?_
    rw [show ((ax_sc (a + 29 + (2 + 14 * ((c + 20 - 1) % 20))) (a + 1) (ax_u (ax_u I (a + 29) 1 (nI ((c + 20 - 1) % 20))) (a + 29) 2 (nI (k - 1)))) (a + 29) 2) = nI (k - 1) from (by rw [ax_sc_ne (by omega)]; exact ax_u_at _ _ _ _)]
    exact x_iret C rfl ⟨rfl, rfl, rfl, rfl⟩ rfl rfl (dk ddX10_undo 14 rfl)
  · exfalso
    omega
set_option maxRecDepth 20000 in
/-- group, refused -/
theorem k_X10_group_bad (l : Launch) (D : va_G) (T : Nat → ClassId) (o d : Nat) (G : ax_G) (I : ax_I) (L : ax_L) (a : Nat) (g n : Int32) (hC : ax_Cls G a) (hbad : (ax_rng g 6 && ax_in3 n.toInt64 0 3) = false) (hd : 1 ≤ d) : ax_Con l D T o yX10_group cX10_group 4 (some .int) d 0 0 [.ref a, .int g, .int n] G I L (ax_pure G I L (.int (-1))) := by
  refine ax_enter (by decide +kernel) (Nat.le_of_ble_eq_true rfl) ?_
  intro p_ e_ s_ m_ args_ below_ meth_ c_ C _
  refine x_lvs (lv' := [(0, .ref a), (1, .int g), (2, .int n)]) rfl ?_
  refine x_iload_n C (dk ddX10_group 0 rfl) rfl ?_
  refine x_callS C (As := [.int g]) (k_X10_isGroup l D T o (d - 1) G I L g) mlX10_98 ⟨by show d - 1 + 1 ≤ d; omega, by show 40 * (d - 1 + 1) ≤ 40 * d; omega⟩ ⟨Nat.le_refl _, Nat.le_refl _⟩ rfl (Nat.le_of_ble_eq_true rfl) (dk ddX10_group 1 rfl) ?_
  rintro v_ G_ I_ L_ ⟨rfl, rfl, rfl, rfl⟩
  refine x_if_eq_b C (tgt := 16) (dk ddX10_group 2 rfl) (by decide) (fun h4 => ?_) (fun h4 => ?_)
  · refine x_iconst C (v := (-1)) (dk ddX10_group 8 rfl) (by decide) ?_
    exact x_iret C rfl (ax_pure_i rfl) rfl rfl (dk ddX10_group 9 rfl)
  · refine x_iload_n C (dk ddX10_group 3 rfl) rfl ?_
    refine x_if_lt C (tgt := 16) (dk ddX10_group 4 rfl) (by decide) (fun h8 => ?_) (fun h8 => ?_)
    · have h8c := Int32.not_le.mpr h8
      refine x_iconst C (v := (-1)) (dk ddX10_group 8 rfl) (by decide) ?_
      exact x_iret C rfl (ax_pure_i rfl) rfl rfl (dk ddX10_group 9 rfl)
    · have h8c := Int32.not_lt.mp h8
      refine x_iload_n C (dk ddX10_group 5 rfl) rfl ?_
      refine x_iconst C (v := nI 3) (dk ddX10_group 6 rfl) (by decide) ?_
      refine x_icmp_le C (tgt := 18) (dk ddX10_group 7 rfl) (by decide) (fun h13 => ?_) (fun h13 => ?_)
      · have h13c := Int32.not_lt.mpr h13
        exfalso
        obtain ⟨n_, hn_, rfl⟩ := nI_of h8
        rw [show ax_in3 (nI n_).toInt64 0 3 = true from ax_in3_ok (h := 3) ((nI_leI (by omega) (by omega)).mp h13) (by decide)] at hbad
        simp_all
      · have h13c := Int32.not_le.mp h13
        refine x_iconst C (v := (-1)) (dk ddX10_group 8 rfl) (by decide) ?_
        exact x_iret C rfl (ax_pure_i rfl) rfl rfl (dk ddX10_group 9 rfl)
set_option maxRecDepth 20000 in
/-- group(g, n) -/
theorem k_X10_group (l : Launch) (D : va_G) (T : Nat → ClassId) (o d : Nat) (G : ax_G) (I : ax_I) (L : ax_L) (a g n c k : Nat) (hC : ax_Cls G a) (hc : I (a + 29) 1 = nI c) (hk : I (a + 29) 2 = nI k) (hc2 : c < 20) (hk2 : k ≤ 20) (hg : g < 6) (hn : n ≤ 3) (hd : 4 ≤ d) : ax_Con l D T o yX10_group cX10_group 4 (some .int) d 0 0 [.ref a, .int (nI g), .int (nI n)] G I L (fun z G' I' L' => z = some (.int (I (a + 1 + 1) g)) ∧ G = G' ∧ ax_rnw (a + 1) (nI g) 8 (ax_u (ax_u (ax_u (ax_u (ax_sc (a + 1) (a + 29 + (2 + 14 * c)) I) (a + 29) 1 (nI ((c + 1) % 20))) (a + 29) 2 (if nI 20 < nI (k + 1) then nI 20 else nI (k + 1))) (a + 1 + 1) g (nI n)) (a + 1 + 2) g (nI 0)) = I' ∧ L = L') := by
  refine ax_enter (by decide +kernel) (Nat.le_of_ble_eq_true rfl) ?_
  intro p_ e_ s_ m_ args_ below_ meth_ c_ C _
  refine x_lvs (lv' := [(0, .ref a), (1, .int (nI g)), (2, .int (nI n))]) rfl ?_
  refine x_iload_n C (dk ddX10_group 0 rfl) rfl ?_
  refine x_callS C (As := [.int (nI g)]) (k_X10_isGroup l D T o (d - 1) G I L (nI g)) mlX10_98 ⟨by show d - 1 + 1 ≤ d; omega, by show 40 * (d - 1 + 1) ≤ 40 * d; omega⟩ ⟨Nat.le_refl _, Nat.le_refl _⟩ rfl (Nat.le_of_ble_eq_true rfl) (dk ddX10_group 1 rfl) ?_
  rintro v_ G_ I_ L_ ⟨rfl, rfl, rfl, rfl⟩
  rw [show (ax_rng (nI g) 6) = true from ax_rng_ok (h := 6) (by omega) (by decide)]
  refine x_if_eq_b C (tgt := 16) (dk ddX10_group 2 rfl) (by decide) (fun h_ => absurd h_ (by decide)) (fun _ => ?_)
  refine x_iload_n C (dk ddX10_group 3 rfl) rfl ?_
  refine x_if_lt_n C (tgt := 16) (dk ddX10_group 4 rfl) (by decide) (by omega) (fun h8 => ?_) (fun h8 => ?_)
  · exfalso
    omega
  · refine x_iload_n C (dk ddX10_group 5 rfl) rfl ?_
    refine x_iconst C (v := nI 3) (dk ddX10_group 6 rfl) (by decide) ?_
    refine x_icmp_le_n C (tgt := 18) (dk ddX10_group 7 rfl) (by decide) (by omega) (by decide) (fun h13 => ?_) (fun h13 => ?_)
    · refine x_aload_n C (dk ddX10_group 10 rfl) rfl ?_
      refine x_getr C flX10_26 rfl (by have h_ := hC.1; omega) hC.fld.1 (show ax_R G a 3 = some (a + 29) from hC.fld.2.2 (3, 29) (by decide)) (dk ddX10_group 11 rfl) ?_
      refine x_aload_n C (dk ddX10_group 12 rfl) rfl ?_
      refine x_getr C flX10_10 rfl (by have h_ := hC.1; omega) hC.fld.1 (show ax_R G a 0 = some (a + 1) from hC.fld.2.2 (0, 1) (by decide)) (dk ddX10_group 13 rfl) ?_
      refine x_callV C (ci := 1) (As := [.ref (a + 1)]) (k_X1_remember l D T o (d - 1) G I L (a + 29) (a + 1) c k hC.history hC.state hc hk hc2 hk2 (by omega)) mlX10_102 rfl rfl (by have h_ := hC.1; omega) (show ax_K G (a + 29) = 8 + 1 from (hC.history.2 0 _ rfl).1) ⟨by show d - 1 + 1 ≤ d; omega, by show 40 * (d - 1 + 1) ≤ 40 * d; omega⟩ ⟨Nat.le_refl _, Nat.le_refl _⟩ rfl (Nat.le_of_ble_eq_true rfl) (dk ddX10_group 14 rfl) ?_
      rintro v_ G_ I_ L_ ⟨rfl, rfl, rfl, rfl⟩
      refine x_aload_n C (dk ddX10_group 15 rfl) rfl ?_
      refine x_getr C flX10_10 rfl (by have h_ := hC.1; omega) hC.fld.1 (show ax_R G a 0 = some (a + 1) from hC.fld.2.2 (0, 1) (by decide)) (dk ddX10_group 16 rfl) ?_
      refine x_getr C flX10_106 rfl (by have h_ := hC.state.1; omega) (show ax_K G (a + 1) = 8 + 7 from (hC.state.2 0 _ rfl).1) (show ax_R G (a + 1) 0 = some (a + 1 + 1) from (hC.state.2 0 _ rfl).2.2 (0, 1) (by decide)) (dk ddX10_group 17 rfl) ?_
      refine x_iload_n C (dk ddX10_group 18 rfl) rfl ?_
      refine x_iald_n C (by have h_ := hC.state.1; omega) (show ax_K G (a + 1 + 1) = 0 from (hC.state.2 1 _ rfl).1) (show ax_N G (a + 1 + 1) = 6 from (hC.state.2 1 _ rfl).2.1) (by omega) (by decide) (dk ddX10_group 19 rfl) ?_
      rw [show ((ax_u (ax_u (ax_sc (a + 1) (a + 29 + (2 + 14 * c)) I) (a + 29) 1 (nI ((c + 1) % 20))) (a + 29) 2 (if nI 20 < nI (k + 1) then nI 20 else nI (k + 1))) (a + 1 + 1) g) = I (a + 1 + 1) g from (by rw [ax_u_ne (by omega), ax_u_ne (by omega), ax_sc_ne (by omega)])]
      refine x_istore_n C (lv' := [(3, .int (I (a + 1 + 1) g)), (0, .ref a), (1, .int (nI g)), (2, .int (nI n))]) (dk ddX10_group 20 rfl) (by decide) rfl ?_
      refine x_aload_n C (dk ddX10_group 21 rfl) rfl ?_
      refine x_getr C flX10_10 rfl (by have h_ := hC.1; omega) hC.fld.1 (show ax_R G a 0 = some (a + 1) from hC.fld.2.2 (0, 1) (by decide)) (dk ddX10_group 22 rfl) ?_
      refine x_iload_n C (dk ddX10_group 23 rfl) rfl ?_
      refine x_iload_n C (dk ddX10_group 24 rfl) rfl ?_
      refine x_callV C (ci := 7) (As := [.int (nI g), .int (nI n)]) (k_X7_renewGroup l D T o (d - 1) G (ax_u (ax_u (ax_sc (a + 1) (a + 29 + (2 + 14 * c)) I) (a + 29) 1 (nI ((c + 1) % 20))) (a + 29) 2 (if nI 20 < nI (k + 1) then nI 20 else nI (k + 1))) L (a + 1) g n hC.state (by omega) (by omega)) mlX10_110 rfl rfl (by have h_ := hC.state.1; omega) (show ax_K G (a + 1) = 8 + 7 from (hC.state.2 0 _ rfl).1) ⟨by show d - 1 + 1 ≤ d; omega, by show 40 * (d - 1 + 1) ≤ 40 * d; omega⟩ ⟨Nat.le_refl _, Nat.le_refl _⟩ rfl (Nat.le_of_ble_eq_true rfl) (dk ddX10_group 25 rfl) ?_
      rintro v_ G_ I_ L_ ⟨rfl, rfl, rfl, rfl⟩
      refine x_iload_n C (dk ddX10_group 26 rfl) rfl ?_
      exact x_iret C rfl ⟨rfl, rfl, rfl, rfl⟩ rfl rfl (dk ddX10_group 27 rfl)
    · exfalso
      omega
/-- the first so many numbers of row q come to a relation's places -/
def ax_tkr (a z q : Nat) (L : ax_L) : Nat → ax_I → ax_I
  | 0, I => I
  | n + 1, I => ax_u (ax_tkr a z q L n I) (a + 3) (z + n) (L q n).toInt32
set_option maxRecDepth 20000 in
/-- takeRelation(g, row) -/
theorem k_X7_takeRelation (l : Launch) (D : va_G) (T : Nat → ClassId) (o d : Nat) (G : ax_G) (I : ax_I) (L : ax_L) (a g q c nq : Nat) (ha : ax_Sta G a) (hg : g < 6) (hq : ax_La G q nq) (hq3 : 3 ≤ nq) (hnq : nq < 2 ^ 31) (hc : I (a + 2) g = nI c) (hc4 : c < 4) : ax_Con l D T o yX7_takeRelation cX7_takeRelation 5 none d 0 0 [.ref a, .int (nI g), .ref q] G I L (fun z G' I' L' => z = none ∧ G = G' ∧ ax_u (ax_tkr a ((g * 4 + c) * 3) q L 3 I) (a + 2) g (nI (c + 1)) = I' ∧ L = L') := by
  refine ax_enter (by decide +kernel) (Nat.le_of_ble_eq_true rfl) ?_
  intro p_ e_ s_ m_ args_ below_ meth_ c_ C _
  refine x_lvs (lv' := [(0, .ref a), (1, .int (nI g)), (2, .ref q)]) rfl ?_
  have htk : ∀ n, ax_tkr a ((g * 4 + c) * 3) q L n I (a + 2) = I (a + 2) := by
    intro n
    induction n with
    | zero => rfl
    | succ n ih => show ax_u _ _ _ _ (a + 2) = _; rw [ax_u_ne (by omega)]; exact ih
  have hloop : ∀ (n_ k : Nat), k + n_ = 3 → ax_XM p_ l e_ s_ m_ args_ below_ meth_ c_ 5 D T o d 0 0 G (fun z G' I' L' => z = none ∧ G = G' ∧ ax_u (ax_tkr a ((g * 4 + c) * 3) q L 3 I) (a + 2) g (nI (c + 1)) = I' ∧ L = L') G (ax_tkr a ((g * 4 + c) * 3) q L k I) L 16 [(4, .int (nI k)), (3, .int (nI ((g * 4 + c) * 3))), (0, .ref a), (1, .int (nI g)), (2, .ref q)] [] := by
    intro n_
    induction n_ with
    | zero =>
      intro k hk_
      rw [show k = 3 by omega]
      refine x_iload C (dk ddX7_takeRelation 13 rfl) rfl ?_
      refine x_iconst C (v := nI 3) (dk ddX7_takeRelation 14 rfl) (by decide) ?_
      refine x_icmp_ge_n C (tgt := 42) (dk ddX7_takeRelation 15 rfl) (by decide) (by decide) (by decide) (fun _ => ?_) (fun h_ => absurd h_ (by decide))
      refine x_aload_n C (dk ddX7_takeRelation 28 rfl) rfl ?_
      refine x_getr C flX7_15 rfl (by have h_ := ha.1; omega) (show ax_K G a = 8 + 7 from (ha.2 0 _ rfl).1) (show ax_R G a 1 = some (a + 2) from (ha.2 0 _ rfl).2.2 (1, 2) (by decide)) (dk ddX7_takeRelation 29 rfl) ?_
      refine x_iload_n C (dk ddX7_takeRelation 30 rfl) rfl ?_
      refine x_dup2 C (dk ddX7_takeRelation 31 rfl) rfl rfl ?_
      refine x_iald_n C (by have h_ := ha.1; omega) (show ax_K G (a + 2) = 0 from (ha.2 2 _ rfl).1) (show ax_N G (a + 2) = 6 from (ha.2 2 _ rfl).2.1) (by omega) (by decide) (dk ddX7_takeRelation 32 rfl) ?_
      rw [show ((ax_tkr a ((g * 4 + c) * 3) q L 3 I) (a + 2) g) = nI c from (by first | exact hc | (rw [htk]; exact hc))]
      refine x_iconst C (v := nI 1) (dk ddX7_takeRelation 33 rfl) (by decide) ?_
      refine x_iadd_n C (dk ddX7_takeRelation 34 rfl) ?_
      refine x_iast_n C (by have h_ := ha.1; omega) (show ax_K G (a + 2) = 0 from (ha.2 2 _ rfl).1) (show ax_N G (a + 2) = 6 from (ha.2 2 _ rfl).2.1) (by omega) (by decide) (dk ddX7_takeRelation 35 rfl) ?_
      exact x_vret C rfl ⟨rfl, rfl, rfl, rfl⟩ rfl rfl (dk ddX7_takeRelation 36 rfl)
    | succ n_ ih_ =>
      intro k hk_
      refine x_iload C (dk ddX7_takeRelation 13 rfl) rfl ?_
      refine x_iconst C (v := nI 3) (dk ddX7_takeRelation 14 rfl) (by decide) ?_
      refine x_icmp_ge_n C (tgt := 42) (dk ddX7_takeRelation 15 rfl) (by decide) (by omega) (by decide) (fun h19 => ?_) (fun h19 => ?_)
      · exfalso
        omega
      · refine x_aload_n C (dk ddX7_takeRelation 16 rfl) rfl ?_
        refine x_getr C flX7_18 rfl (by have h_ := ha.1; omega) (show ax_K G a = 8 + 7 from (ha.2 0 _ rfl).1) (show ax_R G a 2 = some (a + 3) from (ha.2 0 _ rfl).2.2 (2, 3) (by decide)) (dk ddX7_takeRelation 17 rfl) ?_
        refine x_iload_n C (dk ddX7_takeRelation 18 rfl) rfl ?_
        refine x_iload C (dk ddX7_takeRelation 19 rfl) rfl ?_
        refine x_iadd_n C (dk ddX7_takeRelation 20 rfl) ?_
        refine x_aload_n C (dk ddX7_takeRelation 21 rfl) rfl ?_
        refine x_iload C (dk ddX7_takeRelation 22 rfl) rfl ?_
        refine x_lald_n C hq.1 hq.2.1 hq.2.2 (by omega) hnq (dk ddX7_takeRelation 23 rfl) ?_
        refine x_l2i C (dk ddX7_takeRelation 24 rfl) ?_
        refine x_iast_n C (by have h_ := ha.1; omega) (show ax_K G (a + 3) = 0 from (ha.2 3 _ rfl).1) (show ax_N G (a + 3) = 72 from (ha.2 3 _ rfl).2.1) (by omega) (by decide) (dk ddX7_takeRelation 25 rfl) ?_
        refine x_iinc C (v := nI (k + 1)) (lv' := [(4, .int (nI (k + 1))), (3, .int (nI ((g * 4 + c) * 3))), (0, .ref a), (1, .int (nI g)), (2, .ref q)]) (dk ddX7_takeRelation 26 rfl) rfl (nI_add k 1) (by decide) rfl ?_
        refine x_goto C (tgt := 16) (dk ddX7_takeRelation 27 rfl) (by decide) ?_
        refine x_sub [0, 1, 2, 3, 4] (lv' := [(4, .int (nI (k + 1))), (3, .int (nI ((g * 4 + c) * 3))), (0, .ref a), (1, .int (nI g)), (2, .ref q)]) rfl ?_
        exact ih_ (k + 1) (by omega)
  refine x_iload_n C (dk ddX7_takeRelation 0 rfl) rfl ?_
  refine x_iconst C (v := nI 4) (dk ddX7_takeRelation 1 rfl) (by decide) ?_
  refine x_imul_n C (dk ddX7_takeRelation 2 rfl) ?_
  refine x_aload_n C (dk ddX7_takeRelation 3 rfl) rfl ?_
  refine x_getr C flX7_15 rfl (by have h_ := ha.1; omega) (show ax_K G a = 8 + 7 from (ha.2 0 _ rfl).1) (show ax_R G a 1 = some (a + 2) from (ha.2 0 _ rfl).2.2 (1, 2) (by decide)) (dk ddX7_takeRelation 4 rfl) ?_
  refine x_iload_n C (dk ddX7_takeRelation 5 rfl) rfl ?_
  refine x_iald_n C (by have h_ := ha.1; omega) (show ax_K G (a + 2) = 0 from (ha.2 2 _ rfl).1) (show ax_N G (a + 2) = 6 from (ha.2 2 _ rfl).2.1) (by omega) (by decide) (dk ddX7_takeRelation 6 rfl) ?_
  rw [show (I (a + 2) g) = nI c from (by first | exact hc | (rw [htk]; exact hc))]
  refine x_iadd_n C (dk ddX7_takeRelation 7 rfl) ?_
  refine x_iconst C (v := nI 3) (dk ddX7_takeRelation 8 rfl) (by decide) ?_
  refine x_imul_n C (dk ddX7_takeRelation 9 rfl) ?_
  refine x_istore_n C (lv' := [(3, .int (nI ((g * 4 + c) * 3))), (0, .ref a), (1, .int (nI g)), (2, .ref q)]) (dk ddX7_takeRelation 10 rfl) (by decide) rfl ?_
  refine x_iconst C (v := nI 0) (dk ddX7_takeRelation 11 rfl) (by decide) ?_
  refine x_istore C (lv' := [(4, .int (nI 0)), (3, .int (nI ((g * 4 + c) * 3))), (0, .ref a), (1, .int (nI g)), (2, .ref q)]) (dk ddX7_takeRelation 12 rfl) (by decide) rfl ?_
  exact hloop 3 0 (by omega)
