/-! ===== the class: moveRow, settleAt ===== -/
set_option maxRecDepth 20000 in
/-- moveRow(k, row, image) -/
theorem k_X7_moveRow (l : Launch) (D : va_G) (T : Nat → ClassId) (o d : Nat) (G : ax_G) (I : ax_I) (L : ax_L) (a k x y nx ny : Nat) (ha : ax_Sta G a) (hk : k < 12) (hx : ax_La G x nx) (hx3 : 3 ≤ nx) (hnx : nx < 2 ^ 31) (hy : ax_La G y ny) (hy3 : 3 ≤ ny) (hny : ny < 2 ^ 31) (hd : 1 ≤ d) : ax_Con l D T o yX7_moveRow cX7_moveRow 4 (some .int) d 0 0 [.ref a, .int (nI k), .ref x, .ref y] G I L (fun z G' I' L' => z = some (.int (I (a + 10) k)) ∧ G = G' ∧ I = I' ∧ ax_apt I (a + 13) (9 * k) x y L 3 = L') := by
  refine ax_enter (by decide +kernel) (Nat.le_of_ble_eq_true rfl) ?_
  intro p_ e_ s_ m_ args_ below_ meth_ c_ C _
  refine x_lvs (lv' := [(0, .ref a), (1, .int (nI k)), (2, .ref x), (3, .ref y)]) rfl ?_
  refine x_aload_n C (dk ddX7_moveRow 0 rfl) rfl ?_
  refine x_getr C flX7_52 rfl (by have h_ := ha.1; omega) (show ax_K G a = 8 + 7 from (ha.2 0 _ rfl).1) (show ax_R G a 13 = some (a + 13) from (ha.2 0 _ rfl).2.2 (13, 13) (by decide)) (dk ddX7_moveRow 1 rfl) ?_
  refine x_bipush C (v := nI 9) (dk ddX7_moveRow 2 rfl) (by decide) ?_
  refine x_iload_n C (dk ddX7_moveRow 3 rfl) rfl ?_
  refine x_imul_n C (dk ddX7_moveRow 4 rfl) ?_
  refine x_aload_n C (dk ddX7_moveRow 5 rfl) rfl ?_
  refine x_aload_n C (dk ddX7_moveRow 6 rfl) rfl ?_
  refine x_callS C (As := [.ref (a + 13), .int (nI (9 * k)), .ref x, .ref y]) (k_X7_applyTable l D T o (d - 1) G I L (a + 13) (9 * k) x y 108 nx ny (by have h_ := ha.1; omega) (show ax_K G (a + 13) = 0 from (ha.2 13 _ rfl).1) (show ax_N G (a + 13) = 108 from (ha.2 13 _ rfl).2.1) (by decide) (by omega) hx hx3 hnx hy hy3 hny) mlX7_106 ⟨by show d - 1 + 1 ≤ d; omega, by show 40 * (d - 1 + 1) ≤ 40 * d; omega⟩ ⟨Nat.le_refl _, Nat.le_refl _⟩ rfl (Nat.le_of_ble_eq_true rfl) (dk ddX7_moveRow 7 rfl) ?_
  rintro v_ G_ I_ L_ ⟨rfl, rfl, rfl, rfl⟩
  refine x_aload_n C (dk ddX7_moveRow 8 rfl) rfl ?_
  refine x_getr C flX7_43 rfl (by have h_ := ha.1; omega) (show ax_K G a = 8 + 7 from (ha.2 0 _ rfl).1) (show ax_R G a 10 = some (a + 10) from (ha.2 0 _ rfl).2.2 (10, 10) (by decide)) (dk ddX7_moveRow 9 rfl) ?_
  refine x_iload_n C (dk ddX7_moveRow 10 rfl) rfl ?_
  refine x_iald_n C (by have h_ := ha.1; omega) (show ax_K G (a + 10) = 0 from (ha.2 10 _ rfl).1) (show ax_N G (a + 10) = 12 from (ha.2 10 _ rfl).2.1) (by omega) (by decide) (dk ddX7_moveRow 11 rfl) ?_
  exact x_iret C rfl ⟨rfl, rfl, rfl, rfl⟩ rfl rfl (dk ddX7_moveRow 12 rfl)
/-- the coming row, times s, comes to row i, so many places from i on -/
def ax_stl (a i : Nat) (s : Int64) (L : ax_L) : Nat → ax_L
  | 0 => L
  | n + 1 => ax_u (ax_stl a i s L n) (a + 2 + i) (i + n) (s * ax_stl a i s L n (a + 8) (i + n))
set_option maxRecDepth 20000 in
/-- settleAt(i) -/
theorem k_X2_settleAt (l : Launch) (D : va_G) (T : Nat → ClassId) (o d : Nat) (G : ax_G) (I : ax_I) (L : ax_L) (a w i : Nat) (ha : ax_Lat G a) (hw : I a 2 = nI w) (hw6 : w ≤ 6) (hi : i < w) : ax_Con l D T o yX2_settleAt cX2_settleAt 5 none d 0 0 [.ref a, .int (nI i)] G I L (fun z G' I' L' => z = none ∧ G = G' ∧ I = I' ∧ ax_stl a i (if L (a + 8) i < 0 then -1 else 1) L (w - i) = L') := by
  refine ax_enter (by decide +kernel) (Nat.le_of_ble_eq_true rfl) ?_
  intro p_ e_ s_ m_ args_ below_ meth_ c_ C _
  refine x_lvs (lv' := [(0, .ref a), (1, .int (nI i))]) rfl ?_
  refine x_aload_n C (dk ddX2_settleAt 0 rfl) rfl ?_
  refine x_getr C flX2_16 rfl (by have h_ := ha.1; omega) ha.2.1 ha.2.2.2.1 (dk ddX2_settleAt 1 rfl) ?_
  refine x_iload_n C (dk ddX2_settleAt 2 rfl) rfl ?_
  refine x_lald_n C (by have h_ := ha.1; omega) ha.2.2.2.2.2.2.2.1 ha.2.2.2.2.2.2.2.2 (by omega) (by decide) (dk ddX2_settleAt 3 rfl) ?_
  refine x_lconst C (v := 0) (dk ddX2_settleAt 4 rfl) (by decide) ?_
  refine x_lc_ge C (tgt := 17) (dk ddX2_settleAt 5 rfl) (dk ddX2_settleAt 6 rfl) (by decide) (fun h7 => ?_) (fun h7 => ?_)
  · have h7c := Int64.not_lt.mpr h7
    refine x_lconst C (v := 1) (dk ddX2_settleAt 9 rfl) (by decide) ?_
    refine x_lstore_n C (lv' := [(2, .long 1), (0, .ref a), (1, .int (nI i))]) (dk ddX2_settleAt 10 rfl) (by decide) rfl ?_
    refine x_iload_n C (dk ddX2_settleAt 11 rfl) rfl ?_
    refine x_istore C (lv' := [(4, .int (nI i)), (2, .long 1), (0, .ref a), (1, .int (nI i))]) (dk ddX2_settleAt 12 rfl) (by decide) rfl ?_
    have hin : ∀ (n_ k : Nat), k + n_ = w - i → ax_XM p_ l e_ s_ m_ args_ below_ meth_ c_ 5 D T o d 0 0 G (fun z G' I' L' => z = none ∧ G = G' ∧ I = I' ∧ ax_stl a i (if L (a + 8) i < 0 then -1 else 1) L (w - i) = L') G I (ax_stl a i 1 L k) 22 [(4, .int (nI (i + k))), (2, .long 1), (0, .ref a), (1, .int (nI i))] [] := by
      intro n_
      induction n_ with
      | zero =>
        intro k hk_
        rw [show k = w - i by omega]
        refine x_iload C (dk ddX2_settleAt 13 rfl) rfl ?_
        refine x_aload_n C (dk ddX2_settleAt 14 rfl) rfl ?_
        refine x_geti C flX2_20 rfl (by have h_ := ha.1; omega) ha.2.1 (dk ddX2_settleAt 15 rfl) ?_
        rw [show (I a 2) = nI w from hw]
        refine x_icmp_ge_n C (tgt := 55) (dk ddX2_settleAt 16 rfl) (by decide) (by omega) (by omega) (fun h28 => ?_) (fun h28 => ?_)
        · exact x_vret C rfl ⟨rfl, rfl, rfl, by rw [if_neg h7c]⟩ rfl rfl (dk ddX2_settleAt 31 rfl)
        · exfalso
          omega
      | succ n_ ih_ =>
        intro k hk_
        refine x_iload C (dk ddX2_settleAt 13 rfl) rfl ?_
        refine x_aload_n C (dk ddX2_settleAt 14 rfl) rfl ?_
        refine x_geti C flX2_20 rfl (by have h_ := ha.1; omega) ha.2.1 (dk ddX2_settleAt 15 rfl) ?_
        rw [show (I a 2) = nI w from hw]
        refine x_icmp_ge_n C (tgt := 55) (dk ddX2_settleAt 16 rfl) (by decide) (by omega) (by omega) (fun h28 => ?_) (fun h28 => ?_)
        · exfalso
          omega
        · refine x_aload_n C (dk ddX2_settleAt 17 rfl) rfl ?_
          refine x_getr C flX2_11 rfl (by have h_ := ha.1; omega) ha.2.1 ha.2.2.1 (dk ddX2_settleAt 18 rfl) ?_
          refine x_iload_n C (dk ddX2_settleAt 19 rfl) rfl ?_
          refine x_aald7_n C (by have h_ := ha.1; omega) ha.2.2.2.2.1 ha.2.2.2.2.2.1 (by omega) (by decide) (ha.2.2.2.2.2.2.1 i (by omega)).1 (dk ddX2_settleAt 20 rfl) ?_
          refine x_iload C (dk ddX2_settleAt 21 rfl) rfl ?_
          refine x_lload_n C (dk ddX2_settleAt 22 rfl) rfl ?_
          refine x_aload_n C (dk ddX2_settleAt 23 rfl) rfl ?_
          refine x_getr C flX2_16 rfl (by have h_ := ha.1; omega) ha.2.1 ha.2.2.2.1 (dk ddX2_settleAt 24 rfl) ?_
          refine x_iload C (dk ddX2_settleAt 25 rfl) rfl ?_
          refine x_lald_n C (by have h_ := ha.1; omega) ha.2.2.2.2.2.2.2.1 ha.2.2.2.2.2.2.2.2 (by omega) (by decide) (dk ddX2_settleAt 26 rfl) ?_
          refine x_lmul C (dk ddX2_settleAt 27 rfl) ?_
          refine x_last_n C (by have h_ := ha.1; omega) (ha.2.2.2.2.2.2.1 i (by omega)).2.1 (ha.2.2.2.2.2.2.1 i (by omega)).2.2 (by omega) (by decide) (dk ddX2_settleAt 28 rfl) ?_
          refine x_iinc C (v := nI (i + k + 1)) (lv' := [(4, .int (nI (i + k + 1))), (2, .long 1), (0, .ref a), (1, .int (nI i))]) (dk ddX2_settleAt 29 rfl) rfl (nI_add (i + k) 1) (by decide) rfl ?_
          refine x_goto C (tgt := 22) (dk ddX2_settleAt 30 rfl) (by decide) ?_
          refine x_sub [0, 1, 2, 3] (lv' := [(4, .int (nI (i + (k + 1)))), (2, .long 1), (0, .ref a), (1, .int (nI i))]) rfl ?_
          exact ih_ (k + 1) (by omega)
    refine x_sub [0, 1, 2, 3] (lv' := [(4, .int (nI (i + 0))), (2, .long 1), (0, .ref a), (1, .int (nI i))]) rfl ?_
    exact hin (w - i) 0 (by omega)
  · have h7c := Int64.not_le.mp h7
    refine x_ldc2 C klX2_59 (dk ddX2_settleAt 7 rfl) ?_
    refine x_goto C (tgt := 18) (dk ddX2_settleAt 8 rfl) (by decide) ?_
    refine x_lstore_n C (lv' := [(2, .long (-1)), (0, .ref a), (1, .int (nI i))]) (dk ddX2_settleAt 10 rfl) (by decide) rfl ?_
    refine x_iload_n C (dk ddX2_settleAt 11 rfl) rfl ?_
    refine x_istore C (lv' := [(4, .int (nI i)), (2, .long (-1)), (0, .ref a), (1, .int (nI i))]) (dk ddX2_settleAt 12 rfl) (by decide) rfl ?_
    have hin : ∀ (n_ k : Nat), k + n_ = w - i → ax_XM p_ l e_ s_ m_ args_ below_ meth_ c_ 5 D T o d 0 0 G (fun z G' I' L' => z = none ∧ G = G' ∧ I = I' ∧ ax_stl a i (if L (a + 8) i < 0 then -1 else 1) L (w - i) = L') G I (ax_stl a i (-1) L k) 22 [(4, .int (nI (i + k))), (2, .long (-1)), (0, .ref a), (1, .int (nI i))] [] := by
      intro n_
      induction n_ with
      | zero =>
        intro k hk_
        rw [show k = w - i by omega]
        refine x_iload C (dk ddX2_settleAt 13 rfl) rfl ?_
        refine x_aload_n C (dk ddX2_settleAt 14 rfl) rfl ?_
        refine x_geti C flX2_20 rfl (by have h_ := ha.1; omega) ha.2.1 (dk ddX2_settleAt 15 rfl) ?_
        rw [show (I a 2) = nI w from hw]
        refine x_icmp_ge_n C (tgt := 55) (dk ddX2_settleAt 16 rfl) (by decide) (by omega) (by omega) (fun h28 => ?_) (fun h28 => ?_)
        · exact x_vret C rfl ⟨rfl, rfl, rfl, by rw [if_pos h7c]⟩ rfl rfl (dk ddX2_settleAt 31 rfl)
        · exfalso
          omega
      | succ n_ ih_ =>
        intro k hk_
        refine x_iload C (dk ddX2_settleAt 13 rfl) rfl ?_
        refine x_aload_n C (dk ddX2_settleAt 14 rfl) rfl ?_
        refine x_geti C flX2_20 rfl (by have h_ := ha.1; omega) ha.2.1 (dk ddX2_settleAt 15 rfl) ?_
        rw [show (I a 2) = nI w from hw]
        refine x_icmp_ge_n C (tgt := 55) (dk ddX2_settleAt 16 rfl) (by decide) (by omega) (by omega) (fun h28 => ?_) (fun h28 => ?_)
        · exfalso
          omega
        · refine x_aload_n C (dk ddX2_settleAt 17 rfl) rfl ?_
          refine x_getr C flX2_11 rfl (by have h_ := ha.1; omega) ha.2.1 ha.2.2.1 (dk ddX2_settleAt 18 rfl) ?_
          refine x_iload_n C (dk ddX2_settleAt 19 rfl) rfl ?_
          refine x_aald7_n C (by have h_ := ha.1; omega) ha.2.2.2.2.1 ha.2.2.2.2.2.1 (by omega) (by decide) (ha.2.2.2.2.2.2.1 i (by omega)).1 (dk ddX2_settleAt 20 rfl) ?_
          refine x_iload C (dk ddX2_settleAt 21 rfl) rfl ?_
          refine x_lload_n C (dk ddX2_settleAt 22 rfl) rfl ?_
          refine x_aload_n C (dk ddX2_settleAt 23 rfl) rfl ?_
          refine x_getr C flX2_16 rfl (by have h_ := ha.1; omega) ha.2.1 ha.2.2.2.1 (dk ddX2_settleAt 24 rfl) ?_
          refine x_iload C (dk ddX2_settleAt 25 rfl) rfl ?_
          refine x_lald_n C (by have h_ := ha.1; omega) ha.2.2.2.2.2.2.2.1 ha.2.2.2.2.2.2.2.2 (by omega) (by decide) (dk ddX2_settleAt 26 rfl) ?_
          refine x_lmul C (dk ddX2_settleAt 27 rfl) ?_
          refine x_last_n C (by have h_ := ha.1; omega) (ha.2.2.2.2.2.2.1 i (by omega)).2.1 (ha.2.2.2.2.2.2.1 i (by omega)).2.2 (by omega) (by decide) (dk ddX2_settleAt 28 rfl) ?_
          refine x_iinc C (v := nI (i + k + 1)) (lv' := [(4, .int (nI (i + k + 1))), (2, .long (-1)), (0, .ref a), (1, .int (nI i))]) (dk ddX2_settleAt 29 rfl) rfl (nI_add (i + k) 1) (by decide) rfl ?_
          refine x_goto C (tgt := 22) (dk ddX2_settleAt 30 rfl) (by decide) ?_
          refine x_sub [0, 1, 2, 3] (lv' := [(4, .int (nI (i + (k + 1)))), (2, .long (-1)), (0, .ref a), (1, .int (nI i))]) rfl ?_
          exact ih_ (k + 1) (by omega)
    refine x_sub [0, 1, 2, 3] (lv' := [(4, .int (nI (i + 0))), (2, .long (-1)), (0, .ref a), (1, .int (nI i))]) rfl ?_
    exact hin (w - i) 0 (by omega)
