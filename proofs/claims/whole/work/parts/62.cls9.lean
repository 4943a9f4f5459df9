/-! ===== the class: a row by a table ===== -/
/-- place i of a row by a table: the sum of the first so many -/
def ax_apr (I : ax_I) (J : ax_L) (t b x i : Nat) : Nat → Int64
  | 0 => 0
  | n + 1 => ax_apr I J t b x i n + J x n * (I t (b + 3 * n + i)).toInt64
def ax_apt (I : ax_I) (t b x y : Nat) (L : ax_L) : Nat → ax_L
  | 0 => L
  | n + 1 => ax_u (ax_apt I t b x y L n) y n (ax_apr I (ax_apt I t b x y L n) t b x n 3)
set_option maxRecDepth 20000 in
/-- applyTable(tables, base, row, image) -/
theorem k_X7_applyTable (l : Launch) (D : va_G) (T : Nat → ClassId) (o d : Nat) (G : ax_G) (I : ax_I) (L : ax_L) (t b x y nt nx ny : Nat) (ht : t < ax_top G) (hK : ax_K G t = 0) (hN : ax_N G t = nt) (hnt : nt < 2 ^ 31) (hb : b + 9 ≤ nt) (hx : ax_La G x nx) (hx3 : 3 ≤ nx) (hnx : nx < 2 ^ 31) (hy : ax_La G y ny) (hy3 : 3 ≤ ny) (hny : ny < 2 ^ 31) : ax_Con l D T o yX7_applyTable cX7_applyTable 8 none d 0 0 [.ref t, .int (nI b), .ref x, .ref y] G I L (fun z G' I' L' => z = none ∧ G = G' ∧ I = I' ∧ ax_apt I t b x y L 3 = L') := by
  refine ax_enter (by decide +kernel) (Nat.le_of_ble_eq_true rfl) ?_
  intro p_ e_ s_ m_ args_ below_ meth_ c_ C _
  refine x_lvs (lv' := [(0, .ref t), (1, .int (nI b)), (2, .ref x), (3, .ref y)]) rfl ?_
  have hloop : ∀ (n_ k : Nat), k + n_ = 3 → ax_XM p_ l e_ s_ m_ args_ below_ meth_ c_ 8 D T o d 0 0 G (fun z G' I' L' => z = none ∧ G = G' ∧ I = I' ∧ ax_apt I t b x y L 3 = L') G I (ax_apt I t b x y L k) 3 [(4, .int (nI k)), (0, .ref t), (1, .int (nI b)), (2, .ref x), (3, .ref y)] [] := by
    intro n_
    induction n_ with
    | zero =>
      intro k hk_
      rw [show k = 3 by omega]
      refine x_iload C (dk ddX7_applyTable 2 rfl) rfl ?_
      refine x_iconst C (v := nI 3) (dk ddX7_applyTable 3 rfl) (by decide) ?_
      refine x_icmp_ge_n C (tgt := 61) (dk ddX7_applyTable 4 rfl) (by decide) (by decide) (by decide) (fun _ => ?_) (fun h_ => absurd h_ (by decide))
      exact x_vret C rfl ⟨rfl, rfl, rfl, rfl⟩ rfl rfl (dk ddX7_applyTable 37 rfl)
    | succ n_ ih_ =>
      intro k hk_
      refine x_iload C (dk ddX7_applyTable 2 rfl) rfl ?_
      refine x_iconst C (v := nI 3) (dk ddX7_applyTable 3 rfl) (by decide) ?_
      refine x_icmp_ge_n C (tgt := 61) (dk ddX7_applyTable 4 rfl) (by decide) (by omega) (by decide) (fun h6 => ?_) (fun h6 => ?_)
      · exfalso
        omega
      · refine x_lconst C (v := 0) (dk ddX7_applyTable 5 rfl) (by decide) ?_
        refine x_lstore C (lv' := [(5, .long 0), (4, .int (nI k)), (0, .ref t), (1, .int (nI b)), (2, .ref x), (3, .ref y)]) (dk ddX7_applyTable 6 rfl) (by decide) rfl ?_
        refine x_iconst C (v := nI 0) (dk ddX7_applyTable 7 rfl) (by decide) ?_
        refine x_istore C (lv' := [(7, .int (nI 0)), (5, .long 0), (4, .int (nI k)), (0, .ref t), (1, .int (nI b)), (2, .ref x), (3, .ref y)]) (dk ddX7_applyTable 8 rfl) (by decide) rfl ?_
        have hin : ∀ (nq_ q : Nat), q + nq_ = 3 → ax_XM p_ l e_ s_ m_ args_ below_ meth_ c_ 8 D T o d 0 0 G (fun z G' I' L' => z = none ∧ G = G' ∧ I = I' ∧ ax_apt I t b x y L 3 = L') G I (ax_apt I t b x y L k) 15 [(7, .int (nI q)), (5, .long (ax_apr I (ax_apt I t b x y L k) t b x k q)), (4, .int (nI k)), (0, .ref t), (1, .int (nI b)), (2, .ref x), (3, .ref y)] [] := by
          intro nq_
          induction nq_ with
          | zero =>
            intro q hkq_
            rw [show q = 3 by omega]
            refine x_iload C (dk ddX7_applyTable 9 rfl) rfl ?_
            refine x_iconst C (v := nI 3) (dk ddX7_applyTable 10 rfl) (by decide) ?_
            refine x_icmp_ge_n C (tgt := 49) (dk ddX7_applyTable 11 rfl) (by decide) (by decide) (by decide) (fun _ => ?_) (fun h_ => absurd h_ (by decide))
            refine x_aload_n C (dk ddX7_applyTable 31 rfl) rfl ?_
            refine x_iload C (dk ddX7_applyTable 32 rfl) rfl ?_
            refine x_lload C (dk ddX7_applyTable 33 rfl) rfl ?_
            refine x_last_n C hy.1 hy.2.1 hy.2.2 (by omega) hny (dk ddX7_applyTable 34 rfl) ?_
            refine x_iinc C (v := nI (k + 1)) (lv' := [(4, .int (nI (k + 1))), (7, .int (nI 3)), (5, .long (ax_apr I (ax_apt I t b x y L k) t b x k 3)), (0, .ref t), (1, .int (nI b)), (2, .ref x), (3, .ref y)]) (dk ddX7_applyTable 35 rfl) rfl (nI_add k 1) (by decide) rfl ?_
            refine x_goto C (tgt := 3) (dk ddX7_applyTable 36 rfl) (by decide) ?_
            refine x_sub [0, 3, 4, 5, 6] (lv' := [(4, .int (nI (k + 1))), (0, .ref t), (1, .int (nI b)), (2, .ref x), (3, .ref y)]) rfl ?_
            exact ih_ (k + 1) (by omega)
          | succ nq_ ihq_ =>
            intro q hkq_
            refine x_iload C (dk ddX7_applyTable 9 rfl) rfl ?_
            refine x_iconst C (v := nI 3) (dk ddX7_applyTable 10 rfl) (by decide) ?_
            refine x_icmp_ge_n C (tgt := 49) (dk ddX7_applyTable 11 rfl) (by decide) (by omega) (by decide) (fun h18 => ?_) (fun h18 => ?_)
            · exfalso
              omega
            · refine x_lload C (dk ddX7_applyTable 12 rfl) rfl ?_
              refine x_aload_n C (dk ddX7_applyTable 13 rfl) rfl ?_
              refine x_iload C (dk ddX7_applyTable 14 rfl) rfl ?_
              refine x_lald_n C hx.1 hx.2.1 hx.2.2 (by omega) hnx (dk ddX7_applyTable 15 rfl) ?_
              refine x_aload_n C (dk ddX7_applyTable 16 rfl) rfl ?_
              refine x_iload_n C (dk ddX7_applyTable 17 rfl) rfl ?_
              refine x_iconst C (v := nI 3) (dk ddX7_applyTable 18 rfl) (by decide) ?_
              refine x_iload C (dk ddX7_applyTable 19 rfl) rfl ?_
              refine x_imul_n C (dk ddX7_applyTable 20 rfl) ?_
              refine x_iadd_n C (dk ddX7_applyTable 21 rfl) ?_
              refine x_iload C (dk ddX7_applyTable 22 rfl) rfl ?_
              refine x_iadd_n C (dk ddX7_applyTable 23 rfl) ?_
              refine x_iald_n C ht hK hN (by omega) hnt (dk ddX7_applyTable 24 rfl) ?_
              refine x_i2l C (dk ddX7_applyTable 25 rfl) ?_
              refine x_lmul C (dk ddX7_applyTable 26 rfl) ?_
              refine x_ladd C (dk ddX7_applyTable 27 rfl) ?_
              refine x_lstore C (lv' := [(5, .long ((ax_apr I (ax_apt I t b x y L k) t b x k q) + (((ax_apt I t b x y L k) x q) * ((I t (b + 3 * q + k)).toInt64)))), (7, .int (nI q)), (4, .int (nI k)), (0, .ref t), (1, .int (nI b)), (2, .ref x), (3, .ref y)]) (dk ddX7_applyTable 28 rfl) (by decide) rfl ?_
              refine x_iinc C (v := nI (q + 1)) (lv' := [(7, .int (nI (q + 1))), (5, .long ((ax_apr I (ax_apt I t b x y L k) t b x k q) + (((ax_apt I t b x y L k) x q) * ((I t (b + 3 * q + k)).toInt64)))), (4, .int (nI k)), (0, .ref t), (1, .int (nI b)), (2, .ref x), (3, .ref y)]) (dk ddX7_applyTable 29 rfl) rfl (nI_add q 1) (by decide) rfl ?_
              refine x_goto C (tgt := 15) (dk ddX7_applyTable 30 rfl) (by decide) ?_
              refine x_sub [0, 1, 2, 3, 4, 5, 6] (lv' := [(7, .int (nI (q + 1))), (5, .long (ax_apr I (ax_apt I t b x y L k) t b x k (q + 1))), (4, .int (nI k)), (0, .ref t), (1, .int (nI b)), (2, .ref x), (3, .ref y)]) rfl ?_
              exact ihq_ (q + 1) (by omega)
        refine x_sub [0, 1, 2, 3, 4, 5, 6] (lv' := [(7, .int (nI 0)), (5, .long (ax_apr I (ax_apt I t b x y L k) t b x k 0)), (4, .int (nI k)), (0, .ref t), (1, .int (nI b)), (2, .ref x), (3, .ref y)]) rfl ?_
        exact hin 3 0 (by omega)
  refine x_iconst C (v := nI 0) (dk ddX7_applyTable 0 rfl) (by decide) ?_
  refine x_istore C (lv' := [(4, .int (nI 0)), (0, .ref t), (1, .int (nI b)), (2, .ref x), (3, .ref y)]) (dk ddX7_applyTable 1 rfl) (by decide) rfl ?_
  exact hloop 3 0 (by omega)
set_option maxRecDepth 20000 in
/-- mapRow(k, row, image) -/
theorem k_X7_mapRow (l : Launch) (D : va_G) (T : Nat → ClassId) (o d : Nat) (G : ax_G) (I : ax_I) (L : ax_L) (a k x y nx ny : Nat) (ha : ax_Sta G a) (hk : k < 8) (hx : ax_La G x nx) (hx3 : 3 ≤ nx) (hnx : nx < 2 ^ 31) (hy : ax_La G y ny) (hy3 : 3 ≤ ny) (hny : ny < 2 ^ 31) (hd : 1 ≤ d) : ax_Con l D T o yX7_mapRow cX7_mapRow 4 none d 0 0 [.ref a, .int (nI k), .ref x, .ref y] G I L (fun z G' I' L' => z = none ∧ G = G' ∧ I = I' ∧ ax_apt I (a + 6) (9 * k) x y L 3 = L') := by
  refine ax_enter (by decide +kernel) (Nat.le_of_ble_eq_true rfl) ?_
  intro p_ e_ s_ m_ args_ below_ meth_ c_ C _
  refine x_lvs (lv' := [(0, .ref a), (1, .int (nI k)), (2, .ref x), (3, .ref y)]) rfl ?_
  refine x_aload_n C (dk ddX7_mapRow 0 rfl) rfl ?_
  refine x_getr C flX7_27 rfl (by have h_ := ha.1; omega) (show ax_K G a = 8 + 7 from (ha.2 0 _ rfl).1) (show ax_R G a 5 = some (a + 6) from (ha.2 0 _ rfl).2.2 (5, 6) (by decide)) (dk ddX7_mapRow 1 rfl) ?_
  refine x_bipush C (v := nI 9) (dk ddX7_mapRow 2 rfl) (by decide) ?_
  refine x_iload_n C (dk ddX7_mapRow 3 rfl) rfl ?_
  refine x_imul_n C (dk ddX7_mapRow 4 rfl) ?_
  refine x_aload_n C (dk ddX7_mapRow 5 rfl) rfl ?_
  refine x_aload_n C (dk ddX7_mapRow 6 rfl) rfl ?_
  refine x_callS C (As := [.ref (a + 6), .int (nI (9 * k)), .ref x, .ref y]) (k_X7_applyTable l D T o (d - 1) G I L (a + 6) (9 * k) x y 72 nx ny (by have h_ := ha.1; omega) (show ax_K G (a + 6) = 0 from (ha.2 6 _ rfl).1) (show ax_N G (a + 6) = 72 from (ha.2 6 _ rfl).2.1) (by decide) (by omega) hx hx3 hnx hy hy3 hny) mlX7_106 ⟨by show d - 1 + 1 ≤ d; omega, by show 40 * (d - 1 + 1) ≤ 40 * d; omega⟩ ⟨Nat.le_refl _, Nat.le_refl _⟩ rfl (Nat.le_of_ble_eq_true rfl) (dk ddX7_mapRow 7 rfl) ?_
  rintro v_ G_ I_ L_ ⟨rfl, rfl, rfl, rfl⟩
  exact x_vret C rfl ⟨rfl, rfl, rfl, rfl⟩ rfl rfl (dk ddX7_mapRow 8 rfl)
