/-! ===== the reference: move by a map, ofMaps, many, again, rest ===== -/
set_option maxRecDepth 20000 in
/-- move by a map -/
theorem k_X11_move_map (l : Launch) (D : va_G) (T : Nat → ClassId) (o d : Nat) (G : ax_G) (I : ax_I) (L : ax_L) (m c k f p r x y : Nat) (S : Nat → Int32) (hM : ax_Mod G m) (hS : I (m + 1) = S) (hf : f < 8) (hp6 : p < 6) (hr6 : r < 6) (hx3 : x ≤ 3) (hy3 : y ≤ 3) (hp : S (84 + 11 * f) = nI p) (hr : S (84 + 11 * f + 1) = nI r) (hx : S (14 * p) = nI x) (hy : S (14 * r) = nI y) (hc : I m 3 = nI c) (hc2 : c ≤ 20) (hk : S 172 = nI k) (hk2 : k < 12) (hd : 2 ≤ d) : ax_Con l D T o yX11_move cX11_move 5 (some .int) d 0 0 [.ref m, .int (nI 2), .int (nI f)] G I L (fun v G' I' L' => v = some (.int (nI (k + 1))) ∧ G = G' ∧ ax_u (ax_mt9 (m + 1) (84 + 11 * f) (173 + 15 * k) 9 (ax_u (ax_u (ax_u (ax_u (ax_mz (m + 1) (173 + 15 * k) 13 (ax_u (ax_u (ax_ch m c I) (m + 1) (173 + 15 * k) (nI 2)) (m + 1) (173 + 15 * k + 1) (nI f))) (m + 1) (173 + 15 * k + 2) (nI p)) (m + 1) (173 + 15 * k + 3) (nI r)) (m + 1) (173 + 15 * k + 4) (nI x)) (m + 1) (173 + 15 * k + 5) (nI y))) (m + 1) 172 (nI (k + 1)) = I' ∧ L = L') := by
  refine ax_enter (by decide +kernel) (Nat.le_of_ble_eq_true rfl) ?_
  intro p_ e_ s_ m_ args_ below_ meth_ c_ C _
  refine x_lvs (lv' := [(0, .ref m), (1, .int (nI 2)), (2, .int (nI f))]) rfl ?_
  have hmz : ∀ (n : Nat) (Z : ax_I) (i : Nat), i < 173 → ax_mz (m + 1) (173 + 15 * k) n Z (m + 1) i = Z (m + 1) i := by
    intro n Z i hi
    induction n with
    | zero => rfl
    | succ n ih => show ax_u _ _ _ _ _ _ = _; rw [ax_u_nj (by omega), ih]
  have hJ : ∀ i, i < 173 → (ax_mz (m + 1) (173 + 15 * k) 13 (ax_u (ax_u (ax_ch m c I) (m + 1) (173 + 15 * k) (nI 2)) (m + 1) (173 + 15 * k + 1) (nI f))) (m + 1) i = S i := by
    intro i hi
    rw [hmz _ _ _ hi, ax_u_nj (by omega), ax_u_nj (by omega), ax_ch_ne (by omega) (by omega)]
    exact congrFun hS i
  have hJ4 : ∀ i, i < 173 → (ax_u (ax_u (ax_u (ax_u (ax_mz (m + 1) (173 + 15 * k) 13 (ax_u (ax_u (ax_ch m c I) (m + 1) (173 + 15 * k) (nI 2)) (m + 1) (173 + 15 * k + 1) (nI f))) (m + 1) (173 + 15 * k + 2) (nI p)) (m + 1) (173 + 15 * k + 3) (nI r)) (m + 1) (173 + 15 * k + 4) (nI x)) (m + 1) (173 + 15 * k + 5) (nI y)) (m + 1) i = S i := by
    intro i hi
    rw [ax_u_nj (by omega), ax_u_nj (by omega), ax_u_nj (by omega), ax_u_nj (by omega)]
    exact hJ i hi
  have hJ9 : ∀ n i, i < 173 → ax_mt9 (m + 1) (84 + 11 * f) (173 + 15 * k) n (ax_u (ax_u (ax_u (ax_u (ax_mz (m + 1) (173 + 15 * k) 13 (ax_u (ax_u (ax_ch m c I) (m + 1) (173 + 15 * k) (nI 2)) (m + 1) (173 + 15 * k + 1) (nI f))) (m + 1) (173 + 15 * k + 2) (nI p)) (m + 1) (173 + 15 * k + 3) (nI r)) (m + 1) (173 + 15 * k + 4) (nI x)) (m + 1) (173 + 15 * k + 5) (nI y)) (m + 1) i = S i := by
    intro n i hi
    induction n with
    | zero => exact hJ4 i hi
    | succ n ih => show ax_u _ _ _ _ _ _ = _; rw [ax_u_nj (by omega), ih]
  have hl9 : ∀ (n_ q : Nat), q + n_ = 9 → ax_XM p_ l e_ s_ m_ args_ below_ meth_ c_ 5 D T o d 0 0 G (fun v G' I' L' => v = some (.int (nI (k + 1))) ∧ G = G' ∧ ax_u (ax_mt9 (m + 1) (84 + 11 * f) (173 + 15 * k) 9 (ax_u (ax_u (ax_u (ax_u (ax_mz (m + 1) (173 + 15 * k) 13 (ax_u (ax_u (ax_ch m c I) (m + 1) (173 + 15 * k) (nI 2)) (m + 1) (173 + 15 * k + 1) (nI f))) (m + 1) (173 + 15 * k + 2) (nI p)) (m + 1) (173 + 15 * k + 3) (nI r)) (m + 1) (173 + 15 * k + 4) (nI x)) (m + 1) (173 + 15 * k + 5) (nI y))) (m + 1) 172 (nI (k + 1)) = I' ∧ L = L') G (ax_mt9 (m + 1) (84 + 11 * f) (173 + 15 * k) q (ax_u (ax_u (ax_u (ax_u (ax_mz (m + 1) (173 + 15 * k) 13 (ax_u (ax_u (ax_ch m c I) (m + 1) (173 + 15 * k) (nI 2)) (m + 1) (173 + 15 * k + 1) (nI f))) (m + 1) (173 + 15 * k + 2) (nI p)) (m + 1) (173 + 15 * k + 3) (nI r)) (m + 1) (173 + 15 * k + 4) (nI x)) (m + 1) (173 + 15 * k + 5) (nI y))) L 169 [(4, .int (nI q)), (3, .int (nI (173 + 15 * k))), (0, .ref m), (1, .int (nI 2)), (2, .int (nI f))] [] := by
    intro n_
    induction n_ with
    | zero =>
      intro q hk_
      rw [show q = 9 by omega]
      refine x_iload C (dk ddX11_move_p1 3 rfl) rfl ?_
      refine x_bipush C (v := nI 9) (dk ddX11_move_p1 4 rfl) (by decide) ?_
      refine x_icmp_ge_n C (tgt := 211) (dk ddX11_move_p1 5 rfl) (by decide) (by decide) (by decide) (fun _ => ?_) (fun h_ => absurd h_ (by decide))
      refine x_aload_n C (dk ddX11_move_p1 28 rfl) rfl ?_
      refine x_getr C flX11_7 rfl (hM.lt (j := 0) (by decide)) hM.2.1 (show ax_R G m 0 = some (m + 1) from (hM.2.2 0 _ rfl).1) (dk ddX11_move_p1 29 rfl) ?_
      refine x_sipush C (v := nI 172) (dk ddX11_move_p1 30 rfl) (by decide) ?_
      refine x_dup2 C (dk ddX11_move_p1 31 rfl) rfl rfl ?_
      refine x_iald_n C (hM.lt (j := 1) (by decide)) (hM.2.2 0 _ rfl).2.1 (show ax_N G (m + 1) = 353 from (hM.2.2 0 _ rfl).2.2) (by decide) (by decide) (dk ddX11_move_p1 32 rfl) ?_
      rw [show ((ax_mt9 (m + 1) (84 + 11 * f) (173 + 15 * k) 9 (ax_u (ax_u (ax_u (ax_u (ax_mz (m + 1) (173 + 15 * k) 13 (ax_u (ax_u (ax_ch m c I) (m + 1) (173 + 15 * k) (nI 2)) (m + 1) (173 + 15 * k + 1) (nI f))) (m + 1) (173 + 15 * k + 2) (nI p)) (m + 1) (173 + 15 * k + 3) (nI r)) (m + 1) (173 + 15 * k + 4) (nI x)) (m + 1) (173 + 15 * k + 5) (nI y))) (m + 1) 172) = nI k from ((hJ9 _ _ (by omega)).trans hk)]
      refine x_iconst C (v := nI 1) (dk ddX11_move_p1 33 rfl) (by decide) ?_
      refine x_iadd_n C (dk ddX11_move_p1 34 rfl) ?_
      refine x_iast_n C (hM.lt (j := 1) (by decide)) (hM.2.2 0 _ rfl).2.1 (show ax_N G (m + 1) = 353 from (hM.2.2 0 _ rfl).2.2) (by decide) (by decide) (dk ddX11_move_p1 35 rfl) ?_
      refine x_aload_n C (dk ddX11_move_p1 36 rfl) rfl ?_
      refine x_getr C flX11_7 rfl (hM.lt (j := 0) (by decide)) hM.2.1 (show ax_R G m 0 = some (m + 1) from (hM.2.2 0 _ rfl).1) (dk ddX11_move_p1 37 rfl) ?_
      refine x_sipush C (v := nI 172) (dk ddX11_move_p1 38 rfl) (by decide) ?_
      refine x_iald_n C (hM.lt (j := 1) (by decide)) (hM.2.2 0 _ rfl).2.1 (show ax_N G (m + 1) = 353 from (hM.2.2 0 _ rfl).2.2) (by decide) (by decide) (dk ddX11_move_p1 39 rfl) ?_
      rw [show ((ax_u (ax_mt9 (m + 1) (84 + 11 * f) (173 + 15 * k) 9 (ax_u (ax_u (ax_u (ax_u (ax_mz (m + 1) (173 + 15 * k) 13 (ax_u (ax_u (ax_ch m c I) (m + 1) (173 + 15 * k) (nI 2)) (m + 1) (173 + 15 * k + 1) (nI f))) (m + 1) (173 + 15 * k + 2) (nI p)) (m + 1) (173 + 15 * k + 3) (nI r)) (m + 1) (173 + 15 * k + 4) (nI x)) (m + 1) (173 + 15 * k + 5) (nI y))) (m + 1) 172 (nI (k + 1))) (m + 1) 172) = nI (k + 1) from (ax_u_at _ _ _ _)]
      exact x_iret C rfl ⟨rfl, rfl, rfl, rfl⟩ rfl rfl (dk ddX11_move_p1 40 rfl)
    | succ n_ ih_ =>
      intro q hk_
      refine x_iload C (dk ddX11_move_p1 3 rfl) rfl ?_
      refine x_bipush C (v := nI 9) (dk ddX11_move_p1 4 rfl) (by decide) ?_
      refine x_icmp_ge_n C (tgt := 211) (dk ddX11_move_p1 5 rfl) (by decide) (by omega) (by decide) (fun h173 => ?_) (fun h173 => ?_)
      · exfalso
        omega
      · refine x_aload_n C (dk ddX11_move_p1 6 rfl) rfl ?_
        refine x_getr C flX11_7 rfl (hM.lt (j := 0) (by decide)) hM.2.1 (show ax_R G m 0 = some (m + 1) from (hM.2.2 0 _ rfl).1) (dk ddX11_move_p1 7 rfl) ?_
        refine x_iload_n C (dk ddX11_move_p1 8 rfl) rfl ?_
        refine x_bipush C (v := nI 6) (dk ddX11_move_p1 9 rfl) (by decide) ?_
        refine x_iadd_n C (dk ddX11_move_p1 10 rfl) ?_
        refine x_iload C (dk ddX11_move_p1 11 rfl) rfl ?_
        refine x_iadd_n C (dk ddX11_move_p1 12 rfl) ?_
        refine x_aload_n C (dk ddX11_move_p1 13 rfl) rfl ?_
        refine x_getr C flX11_7 rfl (hM.lt (j := 0) (by decide)) hM.2.1 (show ax_R G m 0 = some (m + 1) from (hM.2.2 0 _ rfl).1) (dk ddX11_move_p1 14 rfl) ?_
        refine x_bipush C (v := nI 84) (dk ddX11_move_p1 15 rfl) (by decide) ?_
        refine x_bipush C (v := nI 11) (dk ddX11_move_p1 16 rfl) (by decide) ?_
        refine x_iload_n C (dk ddX11_move_p1 17 rfl) rfl ?_
        refine x_imul_n C (dk ddX11_move_p1 18 rfl) ?_
        refine x_iadd_n C (dk ddX11_move_p1 19 rfl) ?_
        refine x_iconst C (v := nI 2) (dk ddX11_move_p1 20 rfl) (by decide) ?_
        refine x_iadd_n C (dk ddX11_move_p1 21 rfl) ?_
        refine x_iload C (dk ddX11_move_p1 22 rfl) rfl ?_
        refine x_iadd_n C (dk ddX11_move_p1 23 rfl) ?_
        refine x_iald_n C (hM.lt (j := 1) (by decide)) (hM.2.2 0 _ rfl).2.1 (show ax_N G (m + 1) = 353 from (hM.2.2 0 _ rfl).2.2) (by omega) (by decide) (dk ddX11_move_p1 24 rfl) ?_
        refine x_iast_n C (hM.lt (j := 1) (by decide)) (hM.2.2 0 _ rfl).2.1 (show ax_N G (m + 1) = 353 from (hM.2.2 0 _ rfl).2.2) (by omega) (by decide) (dk ddX11_move_p1 25 rfl) ?_
        refine x_iinc C (v := nI (q + 1)) (lv' := [(4, .int (nI (q + 1))), (3, .int (nI (173 + 15 * k))), (0, .ref m), (1, .int (nI 2)), (2, .int (nI f))]) (dk ddX11_move_p1 26 rfl) rfl (nI_add q 1) (by decide) rfl ?_
        refine x_goto C (tgt := 169) (dk ddX11_move_p1 27 rfl) (by decide) ?_
        refine x_sub [0, 1, 2, 3, 4] (lv' := [(4, .int (nI (q + 1))), (3, .int (nI (173 + 15 * k))), (0, .ref m), (1, .int (nI 2)), (2, .int (nI f))]) rfl ?_
        exact ih_ (q + 1) (by omega)
  have hlz : ∀ (n_ q : Nat), q + n_ = 13 → ax_XM p_ l e_ s_ m_ args_ below_ meth_ c_ 5 D T o d 0 0 G (fun v G' I' L' => v = some (.int (nI (k + 1))) ∧ G = G' ∧ ax_u (ax_mt9 (m + 1) (84 + 11 * f) (173 + 15 * k) 9 (ax_u (ax_u (ax_u (ax_u (ax_mz (m + 1) (173 + 15 * k) 13 (ax_u (ax_u (ax_ch m c I) (m + 1) (173 + 15 * k) (nI 2)) (m + 1) (173 + 15 * k + 1) (nI f))) (m + 1) (173 + 15 * k + 2) (nI p)) (m + 1) (173 + 15 * k + 3) (nI r)) (m + 1) (173 + 15 * k + 4) (nI x)) (m + 1) (173 + 15 * k + 5) (nI y))) (m + 1) 172 (nI (k + 1)) = I' ∧ L = L') G (ax_mz (m + 1) (173 + 15 * k) q (ax_u (ax_u (ax_ch m c I) (m + 1) (173 + 15 * k) (nI 2)) (m + 1) (173 + 15 * k + 1) (nI f))) L 78 [(4, .int (nI (2 + q))), (3, .int (nI (173 + 15 * k))), (0, .ref m), (1, .int (nI 2)), (2, .int (nI f))] [] := by
    intro n_
    induction n_ with
    | zero =>
      intro q hk_
      rw [show q = 13 by omega]
      refine x_iload C (dk ddX11_move 46 rfl) rfl ?_
      refine x_bipush C (v := nI 15) (dk ddX11_move 47 rfl) (by decide) ?_
      refine x_icmp_ge_n C (tgt := 101) (dk ddX11_move 48 rfl) (by decide) (by omega) (by decide) (fun h82 => ?_) (fun h82 => ?_)
      · refine x_iload_n C (dk ddX11_move 58 rfl) rfl ?_
        refine x_iconst C (v := nI 2) (dk ddX11_move 59 rfl) (by decide) ?_
        refine x_icmp_ne_n C (tgt := 211) (dk ddX11_move 60 rfl) (by decide) (by decide) (by decide) (fun h_ => absurd h_ (by decide)) (fun _ => ?_)
        refine x_aload_n C (dk ddX11_move 61 rfl) rfl ?_
        refine x_getr C flX11_7 rfl (hM.lt (j := 0) (by decide)) hM.2.1 (show ax_R G m 0 = some (m + 1) from (hM.2.2 0 _ rfl).1) (dk ddX11_move 62 rfl) ?_
        refine x_iload_n C (dk ddX11_move 63 rfl) rfl ?_
        refine x_iconst C (v := nI 2) (dk ddX11_move 64 rfl) (by decide) ?_
        refine x_iadd_n C (dk ddX11_move 65 rfl) ?_
        refine x_aload_n C (dk ddX11_move 66 rfl) rfl ?_
        refine x_iload_n C (dk ddX11_move 67 rfl) rfl ?_
        refine x_callV C (ci := 11) (As := [.int (nI f)]) (k_X11_fromOf l D T o (d - 1) G (ax_mz (m + 1) (173 + 15 * k) 13 (ax_u (ax_u (ax_ch m c I) (m + 1) (173 + 15 * k) (nI 2)) (m + 1) (173 + 15 * k + 1) (nI f))) L m f hM (by omega)) mlX11_174 rfl rfl (hM.lt (j := 0) (by decide)) hM.2.1 ⟨by show d - 1 + 1 ≤ d; omega, by show 40 * (d - 1 + 1) ≤ 40 * d; omega⟩ ⟨Nat.le_refl _, Nat.le_refl _⟩ rfl (Nat.le_of_ble_eq_true rfl) (dk ddX11_move 68 rfl) ?_
        rintro v_ G_ I_ L_ ⟨rfl, rfl, rfl, rfl⟩
        rw [show (ax_mz (m + 1) (173 + 15 * k) 13 (ax_u (ax_u (ax_ch m c I) (m + 1) (173 + 15 * k) (nI 2)) (m + 1) (173 + 15 * k + 1) (nI f))) (m + 1) (84 + 11 * f) = nI p from (by exact (hJ _ (by omega)).trans hp)]
        refine x_iast_n C (hM.lt (j := 1) (by decide)) (hM.2.2 0 _ rfl).2.1 (show ax_N G (m + 1) = 353 from (hM.2.2 0 _ rfl).2.2) (by omega) (by decide) (dk ddX11_move 69 rfl) ?_
        refine x_aload_n C (dk ddX11_move 70 rfl) rfl ?_
        refine x_getr C flX11_7 rfl (hM.lt (j := 0) (by decide)) hM.2.1 (show ax_R G m 0 = some (m + 1) from (hM.2.2 0 _ rfl).1) (dk ddX11_move 71 rfl) ?_
        refine x_iload_n C (dk ddX11_move 72 rfl) rfl ?_
        refine x_iconst C (v := nI 3) (dk ddX11_move 73 rfl) (by decide) ?_
        refine x_iadd_n C (dk ddX11_move 74 rfl) ?_
        refine x_aload_n C (dk ddX11_move 75 rfl) rfl ?_
        refine x_iload_n C (dk ddX11_move 76 rfl) rfl ?_
        refine x_callV C (ci := 11) (As := [.int (nI f)]) (k_X11_toOf l D T o (d - 1) G (ax_u (ax_mz (m + 1) (173 + 15 * k) 13 (ax_u (ax_u (ax_ch m c I) (m + 1) (173 + 15 * k) (nI 2)) (m + 1) (173 + 15 * k + 1) (nI f))) (m + 1) (173 + 15 * k + 2) (nI p)) L m f hM (by omega)) mlX11_181 rfl rfl (hM.lt (j := 0) (by decide)) hM.2.1 ⟨by show d - 1 + 1 ≤ d; omega, by show 40 * (d - 1 + 1) ≤ 40 * d; omega⟩ ⟨Nat.le_refl _, Nat.le_refl _⟩ rfl (Nat.le_of_ble_eq_true rfl) (dk ddX11_move 77 rfl) ?_
        rintro v_ G_ I_ L_ ⟨rfl, rfl, rfl, rfl⟩
        rw [show (ax_u (ax_mz (m + 1) (173 + 15 * k) 13 (ax_u (ax_u (ax_ch m c I) (m + 1) (173 + 15 * k) (nI 2)) (m + 1) (173 + 15 * k + 1) (nI f))) (m + 1) (173 + 15 * k + 2) (nI p)) (m + 1) (84 + 11 * f + 1) = nI r from (by rw [ax_u_nj (by omega)]; exact (hJ _ (by omega)).trans hr)]
        refine x_iast_n C (hM.lt (j := 1) (by decide)) (hM.2.2 0 _ rfl).2.1 (show ax_N G (m + 1) = 353 from (hM.2.2 0 _ rfl).2.2) (by omega) (by decide) (dk ddX11_move 78 rfl) ?_
        refine x_aload_n C (dk ddX11_move 79 rfl) rfl ?_
        refine x_getr C flX11_7 rfl (hM.lt (j := 0) (by decide)) hM.2.1 (show ax_R G m 0 = some (m + 1) from (hM.2.2 0 _ rfl).1) (dk ddX11_move 80 rfl) ?_
        refine x_iload_n C (dk ddX11_move 81 rfl) rfl ?_
        refine x_iconst C (v := nI 4) (dk ddX11_move 82 rfl) (by decide) ?_
        refine x_iadd_n C (dk ddX11_move 83 rfl) ?_
        refine x_aload_n C (dk ddX11_move 84 rfl) rfl ?_
        refine x_aload_n C (dk ddX11_move 85 rfl) rfl ?_
        refine x_iload_n C (dk ddX11_move 86 rfl) rfl ?_
        refine x_callV C (ci := 11) (As := [.int (nI f)]) (k_X11_fromOf l D T o (d - 1) G (ax_u (ax_u (ax_mz (m + 1) (173 + 15 * k) 13 (ax_u (ax_u (ax_ch m c I) (m + 1) (173 + 15 * k) (nI 2)) (m + 1) (173 + 15 * k + 1) (nI f))) (m + 1) (173 + 15 * k + 2) (nI p)) (m + 1) (173 + 15 * k + 3) (nI r)) L m f hM (by omega)) mlX11_174 rfl rfl (hM.lt (j := 0) (by decide)) hM.2.1 ⟨by show d - 1 + 1 ≤ d; omega, by show 40 * (d - 1 + 1) ≤ 40 * d; omega⟩ ⟨Nat.le_refl _, Nat.le_refl _⟩ rfl (Nat.le_of_ble_eq_true rfl) (dk ddX11_move 87 rfl) ?_
        rintro v_ G_ I_ L_ ⟨rfl, rfl, rfl, rfl⟩
        rw [show (ax_u (ax_u (ax_mz (m + 1) (173 + 15 * k) 13 (ax_u (ax_u (ax_ch m c I) (m + 1) (173 + 15 * k) (nI 2)) (m + 1) (173 + 15 * k + 1) (nI f))) (m + 1) (173 + 15 * k + 2) (nI p)) (m + 1) (173 + 15 * k + 3) (nI r)) (m + 1) (84 + 11 * f) = nI p from (by rw [ax_u_nj (by omega), ax_u_nj (by omega)]; exact (hJ _ (by omega)).trans hp)]
        refine x_callV C (ci := 11) (As := [.int (nI p)]) (k_X11_size l D T o (d - 1) G (ax_u (ax_u (ax_mz (m + 1) (173 + 15 * k) 13 (ax_u (ax_u (ax_ch m c I) (m + 1) (173 + 15 * k) (nI 2)) (m + 1) (173 + 15 * k + 1) (nI f))) (m + 1) (173 + 15 * k + 2) (nI p)) (m + 1) (173 + 15 * k + 3) (nI r)) L m p hM (by omega)) mlX11_162 rfl rfl (hM.lt (j := 0) (by decide)) hM.2.1 ⟨by show d - 1 + 1 ≤ d; omega, by show 40 * (d - 1 + 1) ≤ 40 * d; omega⟩ ⟨Nat.le_refl _, Nat.le_refl _⟩ rfl (Nat.le_of_ble_eq_true rfl) (dk ddX11_move 88 rfl) ?_
        rintro v_ G_ I_ L_ ⟨rfl, rfl, rfl, rfl⟩
        rw [show (ax_u (ax_u (ax_mz (m + 1) (173 + 15 * k) 13 (ax_u (ax_u (ax_ch m c I) (m + 1) (173 + 15 * k) (nI 2)) (m + 1) (173 + 15 * k + 1) (nI f))) (m + 1) (173 + 15 * k + 2) (nI p)) (m + 1) (173 + 15 * k + 3) (nI r)) (m + 1) (14 * p) = nI x from (by rw [ax_u_nj (by omega), ax_u_nj (by omega)]; exact (hJ _ (by omega)).trans hx)]
        refine x_iast_n C (hM.lt (j := 1) (by decide)) (hM.2.2 0 _ rfl).2.1 (show ax_N G (m + 1) = 353 from (hM.2.2 0 _ rfl).2.2) (by omega) (by decide) (dk ddX11_move 89 rfl) ?_
        refine x_aload_n C (dk ddX11_move 90 rfl) rfl ?_
        refine x_getr C flX11_7 rfl (hM.lt (j := 0) (by decide)) hM.2.1 (show ax_R G m 0 = some (m + 1) from (hM.2.2 0 _ rfl).1) (dk ddX11_move 91 rfl) ?_
        refine x_iload_n C (dk ddX11_move 92 rfl) rfl ?_
        refine x_iconst C (v := nI 5) (dk ddX11_move 93 rfl) (by decide) ?_
        refine x_iadd_n C (dk ddX11_move 94 rfl) ?_
        refine x_aload_n C (dk ddX11_move 95 rfl) rfl ?_
        refine x_aload_n C (dk ddX11_move 96 rfl) rfl ?_
        refine x_iload_n C (dk ddX11_move 97 rfl) rfl ?_
        refine x_callV C (ci := 11) (As := [.int (nI f)]) (k_X11_toOf l D T o (d - 1) G (ax_u (ax_u (ax_u (ax_mz (m + 1) (173 + 15 * k) 13 (ax_u (ax_u (ax_ch m c I) (m + 1) (173 + 15 * k) (nI 2)) (m + 1) (173 + 15 * k + 1) (nI f))) (m + 1) (173 + 15 * k + 2) (nI p)) (m + 1) (173 + 15 * k + 3) (nI r)) (m + 1) (173 + 15 * k + 4) (nI x)) L m f hM (by omega)) mlX11_181 rfl rfl (hM.lt (j := 0) (by decide)) hM.2.1 ⟨by show d - 1 + 1 ≤ d; omega, by show 40 * (d - 1 + 1) ≤ 40 * d; omega⟩ ⟨Nat.le_refl _, Nat.le_refl _⟩ rfl (Nat.le_of_ble_eq_true rfl) (dk ddX11_move 98 rfl) ?_
        rintro v_ G_ I_ L_ ⟨rfl, rfl, rfl, rfl⟩
        rw [show (ax_u (ax_u (ax_u (ax_mz (m + 1) (173 + 15 * k) 13 (ax_u (ax_u (ax_ch m c I) (m + 1) (173 + 15 * k) (nI 2)) (m + 1) (173 + 15 * k + 1) (nI f))) (m + 1) (173 + 15 * k + 2) (nI p)) (m + 1) (173 + 15 * k + 3) (nI r)) (m + 1) (173 + 15 * k + 4) (nI x)) (m + 1) (84 + 11 * f + 1) = nI r from (by rw [ax_u_nj (by omega), ax_u_nj (by omega), ax_u_nj (by omega)]; exact (hJ _ (by omega)).trans hr)]
        refine x_callV C (ci := 11) (As := [.int (nI r)]) (k_X11_size l D T o (d - 1) G (ax_u (ax_u (ax_u (ax_mz (m + 1) (173 + 15 * k) 13 (ax_u (ax_u (ax_ch m c I) (m + 1) (173 + 15 * k) (nI 2)) (m + 1) (173 + 15 * k + 1) (nI f))) (m + 1) (173 + 15 * k + 2) (nI p)) (m + 1) (173 + 15 * k + 3) (nI r)) (m + 1) (173 + 15 * k + 4) (nI x)) L m r hM (by omega)) mlX11_162 rfl rfl (hM.lt (j := 0) (by decide)) hM.2.1 ⟨by show d - 1 + 1 ≤ d; omega, by show 40 * (d - 1 + 1) ≤ 40 * d; omega⟩ ⟨Nat.le_refl _, Nat.le_refl _⟩ rfl (Nat.le_of_ble_eq_true rfl) (dk ddX11_move 99 rfl) ?_
        rintro v_ G_ I_ L_ ⟨rfl, rfl, rfl, rfl⟩
        rw [show (ax_u (ax_u (ax_u (ax_mz (m + 1) (173 + 15 * k) 13 (ax_u (ax_u (ax_ch m c I) (m + 1) (173 + 15 * k) (nI 2)) (m + 1) (173 + 15 * k + 1) (nI f))) (m + 1) (173 + 15 * k + 2) (nI p)) (m + 1) (173 + 15 * k + 3) (nI r)) (m + 1) (173 + 15 * k + 4) (nI x)) (m + 1) (14 * r) = nI y from (by rw [ax_u_nj (by omega), ax_u_nj (by omega), ax_u_nj (by omega)]; exact (hJ _ (by omega)).trans hy)]
        refine x_iast_n C (hM.lt (j := 1) (by decide)) (hM.2.2 0 _ rfl).2.1 (show ax_N G (m + 1) = 353 from (hM.2.2 0 _ rfl).2.2) (by omega) (by decide) (dk ddX11_move_p1 0 rfl) ?_
        refine x_iconst C (v := nI 0) (dk ddX11_move_p1 1 rfl) (by decide) ?_
        refine x_istore C (lv' := [(4, .int (nI 0)), (3, .int (nI (173 + 15 * k))), (0, .ref m), (1, .int (nI 2)), (2, .int (nI f))]) (dk ddX11_move_p1 2 rfl) (by decide) rfl ?_
        refine x_sub [0, 1, 2, 3, 4] (lv' := [(4, .int (nI 0)), (3, .int (nI (173 + 15 * k))), (0, .ref m), (1, .int (nI 2)), (2, .int (nI f))]) rfl ?_
        exact hl9 9 0 (by omega)
      · exfalso
        omega
    | succ n_ ih_ =>
      intro q hk_
      refine x_iload C (dk ddX11_move 46 rfl) rfl ?_
      refine x_bipush C (v := nI 15) (dk ddX11_move 47 rfl) (by decide) ?_
      refine x_icmp_ge_n C (tgt := 101) (dk ddX11_move 48 rfl) (by decide) (by omega) (by decide) (fun h82 => ?_) (fun h82 => ?_)
      · exfalso
        omega
      · refine x_aload_n C (dk ddX11_move 49 rfl) rfl ?_
        refine x_getr C flX11_7 rfl (hM.lt (j := 0) (by decide)) hM.2.1 (show ax_R G m 0 = some (m + 1) from (hM.2.2 0 _ rfl).1) (dk ddX11_move 50 rfl) ?_
        refine x_iload_n C (dk ddX11_move 51 rfl) rfl ?_
        refine x_iload C (dk ddX11_move 52 rfl) rfl ?_
        refine x_iadd_n C (dk ddX11_move 53 rfl) ?_
        refine x_iconst C (v := nI 0) (dk ddX11_move 54 rfl) (by decide) ?_
        refine x_iast_n C (hM.lt (j := 1) (by decide)) (hM.2.2 0 _ rfl).2.1 (show ax_N G (m + 1) = 353 from (hM.2.2 0 _ rfl).2.2) (by omega) (by decide) (dk ddX11_move 55 rfl) ?_
        refine x_iinc C (v := nI (2 + q + 1)) (lv' := [(4, .int (nI (2 + q + 1))), (3, .int (nI (173 + 15 * k))), (0, .ref m), (1, .int (nI 2)), (2, .int (nI f))]) (dk ddX11_move 56 rfl) rfl (nI_add (2 + q) 1) (by decide) rfl ?_
        refine x_goto C (tgt := 78) (dk ddX11_move 57 rfl) (by decide) ?_
        refine x_sub [0, 1, 2, 3, 4] (lv' := [(4, .int (nI (2 + (q + 1)))), (3, .int (nI (173 + 15 * k))), (0, .ref m), (1, .int (nI 2)), (2, .int (nI f))]) rfl ?_
        exact ih_ (q + 1) (by omega)
  refine x_iload_n C (dk ddX11_move 0 rfl) rfl ?_
  refine x_iload_n C (dk ddX11_move 1 rfl) rfl ?_
  refine x_callS C (As := [.int (nI 2), .int (nI f)]) (k_X11_isMove l D T o (d - 1) G I L (nI 2) (nI f) (by omega)) mlX11_404 ⟨by show d - 1 + 1 ≤ d; omega, by show 40 * (d - 1 + 1) ≤ 40 * d; omega⟩ ⟨Nat.le_refl _, Nat.le_refl _⟩ rfl (Nat.le_of_ble_eq_true rfl) (dk ddX11_move 2 rfl) ?_
  rintro v_ G_ I_ L_ ⟨rfl, rfl, rfl, rfl⟩
  rw [show (an_isMove (nI 2) (nI f)) = false from (rfl : an_isMove (nI 2) (nI f) = false)]
  refine x_if_ne_b C (tgt := 23) (dk ddX11_move 3 rfl) (by decide) (fun h_ => absurd h_ (by decide)) (fun _ => ?_)
  refine x_iload_n C (dk ddX11_move 4 rfl) rfl ?_
  refine x_iconst C (v := nI 2) (dk ddX11_move 5 rfl) (by decide) ?_
  refine x_icmp_ne_n C (tgt := 21) (dk ddX11_move 6 rfl) (by decide) (by decide) (by decide) (fun h_ => absurd h_ (by decide)) (fun _ => ?_)
  refine x_aload_n C (dk ddX11_move 7 rfl) rfl ?_
  refine x_iload_n C (dk ddX11_move 8 rfl) rfl ?_
  refine x_callV C (ci := 11) (As := [.int (nI f)]) (k_X11_isMapN l D T o (d - 1) G I L m f hM (by omega) (by omega)) mlX11_215 rfl rfl (hM.lt (j := 0) (by decide)) hM.2.1 ⟨by show d - 1 + 1 ≤ d; omega, by show 40 * (d - 1 + 1) ≤ 40 * d; omega⟩ ⟨Nat.le_refl _, Nat.le_refl _⟩ rfl (Nat.le_of_ble_eq_true rfl) (dk ddX11_move 9 rfl) ?_
  rintro v_ G_ I_ L_ ⟨rfl, rfl, rfl, rfl⟩
  rw [show (!decide (I (m + 1) (84 + 11 * f) < 0)) = true from (by rw [show I (m + 1) (84 + 11 * f) = nI p from (congrFun hS _).trans hp]; exact ax_nneg (by omega))]
  refine x_if_ne_b C (tgt := 23) (dk ddX11_move 10 rfl) (by decide) (fun _ => ?_) (fun h_ => absurd h_ (by decide))
  refine x_aload_n C (dk ddX11_move 13 rfl) rfl ?_
  refine x_getr C flX11_7 rfl (hM.lt (j := 0) (by decide)) hM.2.1 (show ax_R G m 0 = some (m + 1) from (hM.2.2 0 _ rfl).1) (dk ddX11_move 14 rfl) ?_
  refine x_sipush C (v := nI 172) (dk ddX11_move 15 rfl) (by decide) ?_
  refine x_iald_n C (hM.lt (j := 1) (by decide)) (hM.2.2 0 _ rfl).2.1 (show ax_N G (m + 1) = 353 from (hM.2.2 0 _ rfl).2.2) (by decide) (by decide) (dk ddX11_move 16 rfl) ?_
  rw [show (I (m + 1) 172) = nI k from ((congrFun hS _).trans hk)]
  refine x_bipush C (v := nI 12) (dk ddX11_move 17 rfl) (by decide) ?_
  refine x_icmp_ne_n C (tgt := 39) (dk ddX11_move 18 rfl) (by decide) (by omega) (by decide) (fun h33 => ?_) (fun h33 => ?_)
  · refine x_aload_n C (dk ddX11_move 21 rfl) rfl ?_
    refine x_callV C (ci := 11) (As := []) (k_X11_changes l D T o (d - 1) G I L m c hM hc hc2 (by omega)) mlX11_213 rfl rfl (hM.lt (j := 0) (by decide)) hM.2.1 ⟨by show d - 1 + 1 ≤ d; omega, by show 40 * (d - 1 + 1) ≤ 40 * d; omega⟩ ⟨Nat.le_refl _, Nat.le_refl _⟩ rfl (Nat.le_of_ble_eq_true rfl) (dk ddX11_move 22 rfl) ?_
    rintro v_ G_ I_ L_ ⟨rfl, rfl, rfl, rfl⟩
    refine x_sipush C (v := nI 173) (dk ddX11_move 23 rfl) (by decide) ?_
    refine x_bipush C (v := nI 15) (dk ddX11_move 24 rfl) (by decide) ?_
    refine x_aload_n C (dk ddX11_move 25 rfl) rfl ?_
    refine x_getr C flX11_7 rfl (hM.lt (j := 0) (by decide)) hM.2.1 (show ax_R G m 0 = some (m + 1) from (hM.2.2 0 _ rfl).1) (dk ddX11_move 26 rfl) ?_
    refine x_sipush C (v := nI 172) (dk ddX11_move 27 rfl) (by decide) ?_
    refine x_iald_n C (hM.lt (j := 1) (by decide)) (hM.2.2 0 _ rfl).2.1 (show ax_N G (m + 1) = 353 from (hM.2.2 0 _ rfl).2.2) (by decide) (by decide) (dk ddX11_move 28 rfl) ?_
    rw [show ((ax_ch m c I) (m + 1) 172) = nI k from ((congrFun (ax_ch_ne (by omega) (by omega)) _).trans ((congrFun hS _).trans hk))]
    refine x_imul_n C (dk ddX11_move 29 rfl) ?_
    refine x_iadd_n C (dk ddX11_move 30 rfl) ?_
    refine x_istore_n C (lv' := [(3, .int (nI (173 + 15 * k))), (0, .ref m), (1, .int (nI 2)), (2, .int (nI f))]) (dk ddX11_move 31 rfl) (by decide) rfl ?_
    refine x_aload_n C (dk ddX11_move 32 rfl) rfl ?_
    refine x_getr C flX11_7 rfl (hM.lt (j := 0) (by decide)) hM.2.1 (show ax_R G m 0 = some (m + 1) from (hM.2.2 0 _ rfl).1) (dk ddX11_move 33 rfl) ?_
    refine x_iload_n C (dk ddX11_move 34 rfl) rfl ?_
    refine x_iload_n C (dk ddX11_move 35 rfl) rfl ?_
    refine x_iast_n C (hM.lt (j := 1) (by decide)) (hM.2.2 0 _ rfl).2.1 (show ax_N G (m + 1) = 353 from (hM.2.2 0 _ rfl).2.2) (by omega) (by decide) (dk ddX11_move 36 rfl) ?_
    refine x_aload_n C (dk ddX11_move 37 rfl) rfl ?_
    refine x_getr C flX11_7 rfl (hM.lt (j := 0) (by decide)) hM.2.1 (show ax_R G m 0 = some (m + 1) from (hM.2.2 0 _ rfl).1) (dk ddX11_move 38 rfl) ?_
    refine x_iload_n C (dk ddX11_move 39 rfl) rfl ?_
    refine x_iconst C (v := nI 1) (dk ddX11_move 40 rfl) (by decide) ?_
    refine x_iadd_n C (dk ddX11_move 41 rfl) ?_
    refine x_iload_n C (dk ddX11_move 42 rfl) rfl ?_
    refine x_iast_n C (hM.lt (j := 1) (by decide)) (hM.2.2 0 _ rfl).2.1 (show ax_N G (m + 1) = 353 from (hM.2.2 0 _ rfl).2.2) (by omega) (by decide) (dk ddX11_move 43 rfl) ?_
    refine x_iconst C (v := nI 2) (dk ddX11_move 44 rfl) (by decide) ?_
    refine x_istore C (lv' := [(4, .int (nI 2)), (3, .int (nI (173 + 15 * k))), (0, .ref m), (1, .int (nI 2)), (2, .int (nI f))]) (dk ddX11_move 45 rfl) (by decide) rfl ?_
    refine x_sub [0, 1, 2, 3, 4] (lv' := [(4, .int (nI (2 + 0))), (3, .int (nI (173 + 15 * k))), (0, .ref m), (1, .int (nI 2)), (2, .int (nI f))]) rfl ?_
    exact hlz 13 0 (by omega)
  · exfalso
    omega
/-- how many maps, of the first so many -/
def ax_om (S : Nat → Int32) : Nat → Nat
  | 0 => 0
  | n + 1 => ax_om S n + (if S (84 + 11 * n) < 0 then 0 else 1)
theorem ax_om_le (S : Nat → Int32) : ∀ n, ax_om S n ≤ n
  | 0 => Nat.le_refl _
  | n + 1 => by have := ax_om_le S n; show _ + _ ≤ _; split <;> omega
set_option maxRecDepth 20000 in
/-- ofMaps(false) -/
theorem k_X11_ofMaps_0 (l : Launch) (D : va_G) (T : Nat → ClassId) (o d : Nat) (G : ax_G) (I : ax_I) (L : ax_L) (m : Nat) (hM : ax_Mod G m) (hd : 2 ≤ d) : ax_Con l D T o yX11_ofMaps cX11_ofMaps 4 (some .int) d 0 0 [.ref m, .int (nI 0)] G I L (ax_pure G I L (.int (nI (ax_om (I (m + 1)) 8)))) := by
  refine ax_enter (by decide +kernel) (Nat.le_of_ble_eq_true rfl) ?_
  intro p_ e_ s_ m_ args_ below_ meth_ c_ C _
  refine x_lvs (lv' := [(0, .ref m), (1, .int (nI 0))]) rfl ?_
  have hloop : ∀ (n_ k : Nat), k + n_ = 8 → ax_XM p_ l e_ s_ m_ args_ below_ meth_ c_ 4 D T o d 0 0 G (ax_pure G I L (.int (nI (ax_om (I (m + 1)) 8)))) G I L 4 [(2, .int (nI (ax_om (I (m + 1)) k))), (3, .int (nI k)), (0, .ref m), (1, .int (nI 0))] [] := by
    intro n_
    induction n_ with
    | zero =>
      intro k hk_
      rw [show k = 8 by omega]
      refine x_iload_n C (dk ddX11_ofMaps 4 rfl) rfl ?_
      refine x_bipush C (v := nI 8) (dk ddX11_ofMaps 5 rfl) (by decide) ?_
      refine x_icmp_ge_n C (tgt := 54) (dk ddX11_ofMaps 6 rfl) (by decide) (by decide) (by decide) (fun _ => ?_) (fun h_ => absurd h_ (by decide))
      refine x_iload_n C (dk ddX11_ofMaps 31 rfl) rfl ?_
      exact x_iret C rfl (ax_pure_i rfl) rfl rfl (dk ddX11_ofMaps 32 rfl)
    | succ n_ ih_ =>
      intro k hk_
      refine x_iload_n C (dk ddX11_ofMaps 4 rfl) rfl ?_
      refine x_bipush C (v := nI 8) (dk ddX11_ofMaps 5 rfl) (by decide) ?_
      refine x_icmp_ge_n C (tgt := 54) (dk ddX11_ofMaps 6 rfl) (by decide) (by omega) (by decide) (fun h7 => ?_) (fun h7 => ?_)
      · exfalso
        omega
      · refine x_iload_n C (dk ddX11_ofMaps 7 rfl) rfl ?_
        refine x_aload_n C (dk ddX11_ofMaps 8 rfl) rfl ?_
        refine x_iload_n C (dk ddX11_ofMaps 9 rfl) rfl ?_
        refine x_callV C (ci := 11) (As := [.int (nI k)]) (k_X11_isMapN l D T o (d - 1) G I L m k hM (by omega) (by omega)) mlX11_215 rfl rfl (hM.lt (j := 0) (by decide)) hM.2.1 ⟨by show d - 1 + 1 ≤ d; omega, by show 40 * (d - 1 + 1) ≤ 40 * d; omega⟩ ⟨Nat.le_refl _, Nat.le_refl _⟩ rfl (Nat.le_of_ble_eq_true rfl) (dk ddX11_ofMaps 10 rfl) ?_
        rintro v_ G_ I_ L_ ⟨rfl, rfl, rfl, rfl⟩
        refine x_if_ne_b C (tgt := 23) (dk ddX11_ofMaps 11 rfl) (by decide) (fun h16 => ?_) (fun h16 => ?_)
        · refine x_iload_n C (dk ddX11_ofMaps 14 rfl) rfl ?_
          refine x_if_ne_n C (tgt := 31) (dk ddX11_ofMaps 15 rfl) (by decide) (by decide) (fun h_ => absurd h_ (by decide)) (fun _ => ?_)
          refine x_iconst C (v := nI 1) (dk ddX11_ofMaps 16 rfl) (by decide) ?_
          refine x_goto C (tgt := 46) (dk ddX11_ofMaps 17 rfl) (by decide) ?_
          refine x_iadd_n C (dk ddX11_ofMaps 27 rfl) ?_
          refine x_istore_n C (lv' := [(2, .int (nI (ax_om (I (m + 1)) k + 1))), (3, .int (nI k)), (0, .ref m), (1, .int (nI 0))]) (dk ddX11_ofMaps 28 rfl) (by decide) rfl ?_
          refine x_iinc C (v := nI (k + 1)) (lv' := [(3, .int (nI (k + 1))), (2, .int (nI (ax_om (I (m + 1)) k + 1))), (0, .ref m), (1, .int (nI 0))]) (dk ddX11_ofMaps 29 rfl) rfl (nI_add k 1) (by decide) rfl ?_
          refine x_goto C (tgt := 4) (dk ddX11_ofMaps 30 rfl) (by decide) ?_
          have e_ : ax_om (I (m + 1)) (k + 1) = ax_om (I (m + 1)) k + 1 := by show _ + (if _ then _ else _) = _; rw [if_neg (by intro z; rw [decide_eq_true z] at h16; cases h16)]
          refine x_sub [1, 0, 2, 3] (lv' := [(2, .int (nI (ax_om (I (m + 1)) k + 1))), (3, .int (nI (k + 1))), (0, .ref m), (1, .int (nI 0))]) rfl ?_
          have h_ := ih_ (k + 1) (by omega)
          rw [e_] at h_
          exact h_
        · refine x_iconst C (v := nI 0) (dk ddX11_ofMaps 12 rfl) (by decide) ?_
          refine x_goto C (tgt := 46) (dk ddX11_ofMaps 13 rfl) (by decide) ?_
          refine x_iadd_n C (dk ddX11_ofMaps 27 rfl) ?_
          refine x_istore_n C (lv' := [(2, .int (nI (ax_om (I (m + 1)) k + 0))), (3, .int (nI k)), (0, .ref m), (1, .int (nI 0))]) (dk ddX11_ofMaps 28 rfl) (by decide) rfl ?_
          refine x_iinc C (v := nI (k + 1)) (lv' := [(3, .int (nI (k + 1))), (2, .int (nI (ax_om (I (m + 1)) k + 0))), (0, .ref m), (1, .int (nI 0))]) (dk ddX11_ofMaps 29 rfl) rfl (nI_add k 1) (by decide) rfl ?_
          refine x_goto C (tgt := 4) (dk ddX11_ofMaps 30 rfl) (by decide) ?_
          have e_ : ax_om (I (m + 1)) (k + 1) = ax_om (I (m + 1)) k + 0 := by show _ + (if _ then _ else _) = _; rw [if_pos (by rcases Decidable.em (I (m + 1) (84 + 11 * k) < 0) with h | h; exact h; rw [decide_eq_false h] at h16; cases h16)]
          refine x_sub [1, 0, 2, 3] (lv' := [(2, .int (nI (ax_om (I (m + 1)) k + 0))), (3, .int (nI (k + 1))), (0, .ref m), (1, .int (nI 0))]) rfl ?_
          have h_ := ih_ (k + 1) (by omega)
          rw [e_] at h_
          exact h_
  refine x_iconst C (v := nI 0) (dk ddX11_ofMaps 0 rfl) (by decide) ?_
  refine x_istore_n C (lv' := [(2, .int (nI 0)), (0, .ref m), (1, .int (nI 0))]) (dk ddX11_ofMaps 1 rfl) (by decide) rfl ?_
  refine x_iconst C (v := nI 0) (dk ddX11_ofMaps 2 rfl) (by decide) ?_
  refine x_istore_n C (lv' := [(3, .int (nI 0)), (2, .int (nI 0)), (0, .ref m), (1, .int (nI 0))]) (dk ddX11_ofMaps 3 rfl) (by decide) rfl ?_
  refine x_sub [1, 0, 2, 3] (lv' := [(2, .int (nI 0)), (3, .int (nI 0)), (0, .ref m), (1, .int (nI 0))]) rfl ?_
  exact hloop 8 0 (by omega)
set_option maxRecDepth 20000 in
/-- many(0) -/
theorem k_X11_many_0 (l : Launch) (D : va_G) (T : Nat → ClassId) (o d : Nat) (G : ax_G) (I : ax_I) (L : ax_L) (m : Nat) (hM : ax_Mod G m) (hd : 3 ≤ d) : ax_Con l D T o yX11_many cX11_many 2 (some .int) d 0 0 [.ref m, .int (nI 0)] G I L (ax_pure G I L (.int (ax_og (I (m + 1)) 0 6))) := by
  refine ax_enter (by decide +kernel) (Nat.le_of_ble_eq_true rfl) ?_
  intro p_ e_ s_ m_ args_ below_ meth_ c_ C _
  refine x_lvs (lv' := [(0, .ref m), (1, .int (nI 0))]) rfl ?_
  refine x_iload_n C (dk ddX11_many 0 rfl) rfl ?_
  refine x_tableIn C (off := 43) (tgt := 44) (dk ddX11_many 1 rfl) (by decide) (by decide) (by decide) (by decide) ?_
  refine x_aload_n C (dk ddX11_many 2 rfl) rfl ?_
  refine x_iload_n C (dk ddX11_many 3 rfl) rfl ?_
  refine x_callV C (ci := 11) (As := [.int (nI 0)]) (k_X11_ofGroups l D T o (d - 1) G I L m 0 hM (by omega)) mlX11_430 rfl rfl (hM.lt (j := 0) (by decide)) hM.2.1 ⟨by show d - 1 + 1 ≤ d; omega, by show 40 * (d - 1 + 1) ≤ 40 * d; omega⟩ ⟨Nat.le_refl _, Nat.le_refl _⟩ rfl (Nat.le_of_ble_eq_true rfl) (dk ddX11_many 4 rfl) ?_
  rintro v_ G_ I_ L_ ⟨rfl, rfl, rfl, rfl⟩
  exact x_iret C rfl (ax_pure_i rfl) rfl rfl (dk ddX11_many 5 rfl)
set_option maxRecDepth 20000 in
/-- many(1) -/
theorem k_X11_many_1 (l : Launch) (D : va_G) (T : Nat → ClassId) (o d : Nat) (G : ax_G) (I : ax_I) (L : ax_L) (m : Nat) (hM : ax_Mod G m) (hd : 3 ≤ d) : ax_Con l D T o yX11_many cX11_many 2 (some .int) d 0 0 [.ref m, .int (nI 1)] G I L (ax_pure G I L (.int (ax_og (I (m + 1)) 1 6))) := by
  refine ax_enter (by decide +kernel) (Nat.le_of_ble_eq_true rfl) ?_
  intro p_ e_ s_ m_ args_ below_ meth_ c_ C _
  refine x_lvs (lv' := [(0, .ref m), (1, .int (nI 1))]) rfl ?_
  refine x_iload_n C (dk ddX11_many 0 rfl) rfl ?_
  refine x_tableIn C (off := 43) (tgt := 44) (dk ddX11_many 1 rfl) (by decide) (by decide) (by decide) (by decide) ?_
  refine x_aload_n C (dk ddX11_many 2 rfl) rfl ?_
  refine x_iload_n C (dk ddX11_many 3 rfl) rfl ?_
  refine x_callV C (ci := 11) (As := [.int (nI 1)]) (k_X11_ofGroups l D T o (d - 1) G I L m 1 hM (by omega)) mlX11_430 rfl rfl (hM.lt (j := 0) (by decide)) hM.2.1 ⟨by show d - 1 + 1 ≤ d; omega, by show 40 * (d - 1 + 1) ≤ 40 * d; omega⟩ ⟨Nat.le_refl _, Nat.le_refl _⟩ rfl (Nat.le_of_ble_eq_true rfl) (dk ddX11_many 4 rfl) ?_
  rintro v_ G_ I_ L_ ⟨rfl, rfl, rfl, rfl⟩
  exact x_iret C rfl (ax_pure_i rfl) rfl rfl (dk ddX11_many 5 rfl)
set_option maxRecDepth 20000 in
/-- many(2) -/
theorem k_X11_many_2 (l : Launch) (D : va_G) (T : Nat → ClassId) (o d : Nat) (G : ax_G) (I : ax_I) (L : ax_L) (m : Nat) (hM : ax_Mod G m) (hd : 3 ≤ d) : ax_Con l D T o yX11_many cX11_many 2 (some .int) d 0 0 [.ref m, .int (nI 2)] G I L (ax_pure G I L (.int (nI (ax_om (I (m + 1)) 8)))) := by
  refine ax_enter (by decide +kernel) (Nat.le_of_ble_eq_true rfl) ?_
  intro p_ e_ s_ m_ args_ below_ meth_ c_ C _
  refine x_lvs (lv' := [(0, .ref m), (1, .int (nI 2))]) rfl ?_
  refine x_iload_n C (dk ddX11_many 0 rfl) rfl ?_
  refine x_tableIn C (off := 49) (tgt := 50) (dk ddX11_many 1 rfl) (by decide) (by decide) (by decide) (by decide) ?_
  refine x_aload_n C (dk ddX11_many 6 rfl) rfl ?_
  refine x_iload_n C (dk ddX11_many 7 rfl) rfl ?_
  refine x_iconst C (v := nI 3) (dk ddX11_many 8 rfl) (by decide) ?_
  refine x_icmp_ne_n C (tgt := 60) (dk ddX11_many 9 rfl) (by decide) (by decide) (by decide) (fun _ => ?_) (fun h_ => absurd h_ (by decide))
  refine x_iconst C (v := nI 0) (dk ddX11_many 12 rfl) (by decide) ?_
  refine x_callV C (ci := 11) (As := [.int (nI 0)]) (k_X11_ofMaps_0 l D T o (d - 1) G I L m hM (by omega)) mlX11_433 rfl rfl (hM.lt (j := 0) (by decide)) hM.2.1 ⟨by show d - 1 + 1 ≤ d; omega, by show 40 * (d - 1 + 1) ≤ 40 * d; omega⟩ ⟨Nat.le_refl _, Nat.le_refl _⟩ rfl (Nat.le_of_ble_eq_true rfl) (dk ddX11_many 13 rfl) ?_
  rintro v_ G_ I_ L_ ⟨rfl, rfl, rfl, rfl⟩
  exact x_iret C rfl (ax_pure_i rfl) rfl rfl (dk ddX11_many 14 rfl)
set_option maxRecDepth 20000 in
/-- many(4) -/
theorem k_X11_many_4 (l : Launch) (D : va_G) (T : Nat → ClassId) (o d : Nat) (G : ax_G) (I : ax_I) (L : ax_L) (m : Nat) (hM : ax_Mod G m) (hd : 3 ≤ d) : ax_Con l D T o yX11_many cX11_many 2 (some .int) d 0 0 [.ref m, .int (nI 4)] G I L (ax_pure G I L (.int (I (m + 1) 172))) := by
  refine ax_enter (by decide +kernel) (Nat.le_of_ble_eq_true rfl) ?_
  intro p_ e_ s_ m_ args_ below_ meth_ c_ C _
  refine x_lvs (lv' := [(0, .ref m), (1, .int (nI 4))]) rfl ?_
  refine x_iload_n C (dk ddX11_many 0 rfl) rfl ?_
  refine x_tableIn C (off := 64) (tgt := 65) (dk ddX11_many 1 rfl) (by decide) (by decide) (by decide) (by decide) ?_
  refine x_aload_n C (dk ddX11_many 15 rfl) rfl ?_
  refine x_getr C flX11_7 rfl (hM.lt (j := 0) (by decide)) hM.2.1 (show ax_R G m 0 = some (m + 1) from (hM.2.2 0 _ rfl).1) (dk ddX11_many 16 rfl) ?_
  refine x_sipush C (v := nI 172) (dk ddX11_many 17 rfl) (by decide) ?_
  refine x_iald_n C (hM.lt (j := 1) (by decide)) (hM.2.2 0 _ rfl).2.1 (show ax_N G (m + 1) = 353 from (hM.2.2 0 _ rfl).2.2) (by decide) (by decide) (dk ddX11_many 18 rfl) ?_
  exact x_iret C rfl (ax_pure_i rfl) rfl rfl (dk ddX11_many 19 rfl)
set_option maxRecDepth 20000 in
/-- many(5) -/
theorem k_X11_many_5 (l : Launch) (D : va_G) (T : Nat → ClassId) (o d : Nat) (G : ax_G) (I : ax_I) (L : ax_L) (m : Nat) (hM : ax_Mod G m) (hd : 3 ≤ d) : ax_Con l D T o yX11_many cX11_many 2 (some .int) d 0 0 [.ref m, .int (nI 5)] G I L (ax_pure G I L (.int (I m 3))) := by
  refine ax_enter (by decide +kernel) (Nat.le_of_ble_eq_true rfl) ?_
  intro p_ e_ s_ m_ args_ below_ meth_ c_ C _
  refine x_lvs (lv' := [(0, .ref m), (1, .int (nI 5))]) rfl ?_
  refine x_iload_n C (dk ddX11_many 0 rfl) rfl ?_
  refine x_tableIn C (off := 73) (tgt := 74) (dk ddX11_many 1 rfl) (by decide) (by decide) (by decide) (by decide) ?_
  refine x_aload_n C (dk ddX11_many 20 rfl) rfl ?_
  refine x_geti C flX11_113 rfl (hM.lt (j := 0) (by decide)) hM.2.1 (dk ddX11_many 21 rfl) ?_
  exact x_iret C rfl (ax_pure_i rfl) rfl rfl (dk ddX11_many 22 rfl)
set_option maxRecDepth 20000 in
/-- many(6) -/
theorem k_X11_many_6 (l : Launch) (D : va_G) (T : Nat → ClassId) (o d : Nat) (G : ax_G) (I : ax_I) (L : ax_L) (m : Nat) (hM : ax_Mod G m) (hd : 3 ≤ d) : ax_Con l D T o yX11_many cX11_many 2 (some .int) d 0 0 [.ref m, .int (nI 6)] G I L (ax_pure G I L (.int (I m 29))) := by
  refine ax_enter (by decide +kernel) (Nat.le_of_ble_eq_true rfl) ?_
  intro p_ e_ s_ m_ args_ below_ meth_ c_ C _
  refine x_lvs (lv' := [(0, .ref m), (1, .int (nI 6))]) rfl ?_
  refine x_iload_n C (dk ddX11_many 0 rfl) rfl ?_
  refine x_tableIn C (off := 78) (tgt := 79) (dk ddX11_many 1 rfl) (by decide) (by decide) (by decide) (by decide) ?_
  refine x_aload_n C (dk ddX11_many 23 rfl) rfl ?_
  refine x_geti C flX11_333 rfl (hM.lt (j := 0) (by decide)) hM.2.1 (dk ddX11_many 24 rfl) ?_
  exact x_iret C rfl (ax_pure_i rfl) rfl rfl (dk ddX11_many 25 rfl)
set_option maxRecDepth 20000 in
/-- many of what is not counted -/
theorem k_X11_many_bad (l : Launch) (D : va_G) (T : Nat → ClassId) (o d : Nat) (G : ax_G) (I : ax_I) (L : ax_L) (m : Nat) (t : Int32) (hM : ax_Mod G m) (ht : t.toInt < 0 ∨ 6 < t.toInt) (hd : 3 ≤ d) : ax_Con l D T o yX11_many cX11_many 2 (some .int) d 0 0 [.ref m, .int t] G I L (ax_pure G I L (.int (-1))) := by
  refine ax_enter (by decide +kernel) (Nat.le_of_ble_eq_true rfl) ?_
  intro p_ e_ s_ m_ args_ below_ meth_ c_ C _
  refine x_lvs (lv' := [(0, .ref m), (1, .int t)]) rfl ?_
  refine x_iload_n C (dk ddX11_many 0 rfl) rfl ?_
  refine x_tableOut C (tgt := 84) (dk ddX11_many 1 rfl) ht (by decide) ?_
  refine x_iconst C (v := (-1)) (dk ddX11_many 26 rfl) (by decide) ?_
  exact x_iret C rfl (ax_pure_i rfl) rfl rfl (dk ddX11_many 27 rfl)
set_option maxRecDepth 20000 in
/-- again, where nothing is kept -/
theorem k_X11_again_no (l : Launch) (D : va_G) (T : Nat → ClassId) (o d : Nat) (G : ax_G) (I : ax_I) (L : ax_L) (m : Nat) (hM : ax_Mod G m) (hk : I m 4 = ax_b false) (hd : 3 ≤ d) : ax_Con l D T o yX11_again cX11_again 1 (some .int) d 0 0 [.ref m] G I L (ax_pure G I L (.int (-3))) := by
  refine ax_enter (by decide +kernel) (Nat.le_of_ble_eq_true rfl) ?_
  intro p_ e_ s_ m_ args_ below_ meth_ c_ C _
  refine x_lvs (lv' := [(0, .ref m)]) rfl ?_
  refine x_aload_n C (dk ddX11_again 0 rfl) rfl ?_
  refine x_geti C flX11_437 rfl (hM.lt (j := 0) (by decide)) hM.2.1 (dk ddX11_again 1 rfl) ?_
  rw [show (I m 4) = ax_b false from hk]
  refine x_if_ne_b C (tgt := 10) (dk ddX11_again 2 rfl) (by decide) (fun h_ => absurd h_ (by decide)) (fun _ => ?_)
  refine x_bipush C (v := (-3)) (dk ddX11_again 3 rfl) (by decide) ?_
  exact x_iret C rfl (ax_pure_i rfl) rfl rfl (dk ddX11_again 4 rfl)
theorem ax_om_cp {m : Nat} {I : ax_I} : ax_om (ax_u (ax_cp I (m + 2) (m + 1) 0 0 353) m 3 (nI 0) (m + 1)) 8 = ax_om (I (m + 2)) 8 := by
  rw [ax_u_ne (by omega), ax_cp_eq]
  have h : ∀ n, n ≤ 8 → ax_om (va_cpy (I (m + 2)) (I (m + 1)) 0 0 353) n = ax_om (I (m + 2)) n := by
    intro n
    induction n with
    | zero => intro _; rfl
    | succ n ih =>
      intro hn
      show _ + _ = _ + _
      rw [ih (by omega), show va_cpy (I (m + 2)) (I (m + 1)) 0 0 353 (84 + 11 * n) = I (m + 2) (84 + 11 * n) from by unfold va_cpy; rw [if_pos (by omega)]; congr 1; omega]
  exact h 8 (by decide)
set_option maxRecDepth 20000 in
/-- again -/
theorem k_X11_again (l : Launch) (D : va_G) (T : Nat → ClassId) (o d : Nat) (G : ax_G) (I : ax_I) (L : ax_L) (m : Nat) (hM : ax_Mod G m) (hk : I m 4 = ax_b true) (hd : 3 ≤ d) : ax_Con l D T o yX11_again cX11_again 1 (some .int) d 0 0 [.ref m] G I L (fun v G' I' L' => v = some (.int (nI (ax_om (I (m + 2)) 8))) ∧ G = G' ∧ ax_u (ax_cp I (m + 2) (m + 1) 0 0 353) m 3 (nI 0) = I' ∧ L = L') := by
  refine ax_enter (by decide +kernel) (Nat.le_of_ble_eq_true rfl) ?_
  intro p_ e_ s_ m_ args_ below_ meth_ c_ C _
  refine x_lvs (lv' := [(0, .ref m)]) rfl ?_
  refine x_aload_n C (dk ddX11_again 0 rfl) rfl ?_
  refine x_geti C flX11_437 rfl (hM.lt (j := 0) (by decide)) hM.2.1 (dk ddX11_again 1 rfl) ?_
  rw [show (I m 4) = ax_b true from hk]
  refine x_if_ne_b C (tgt := 10) (dk ddX11_again 2 rfl) (by decide) (fun _ => ?_) (fun h_ => absurd h_ (by decide))
  refine x_aload_n C (dk ddX11_again 5 rfl) rfl ?_
  refine x_getr C flX11_13 rfl (hM.lt (j := 0) (by decide)) hM.2.1 (show ax_R G m 1 = some (m + 2) from (hM.2.2 1 _ rfl).1) (dk ddX11_again 6 rfl) ?_
  refine x_iconst C (v := nI 0) (dk ddX11_again 7 rfl) (by decide) ?_
  refine x_aload_n C (dk ddX11_again 8 rfl) rfl ?_
  refine x_getr C flX11_7 rfl (hM.lt (j := 0) (by decide)) hM.2.1 (show ax_R G m 0 = some (m + 1) from (hM.2.2 0 _ rfl).1) (dk ddX11_again 9 rfl) ?_
  refine x_iconst C (v := nI 0) (dk ddX11_again 10 rfl) (by decide) ?_
  refine x_callS C (As := [.ref (m + 2), .int (nI 0), .ref (m + 1), .int (nI 0)]) (k_X11_saves l D T o (d - 1) G I L (m + 2) 0 (m + 1) 0 (by omega) (hM.lt (j := 2) (by decide)) (hM.2.2 1 _ rfl).2.1 (hM.lt (j := 1) (by decide)) (hM.2.2 0 _ rfl).2.1 (by rw [(show ax_N G (m + 2) = 353 from (hM.2.2 1 _ rfl).2.2)]; omega) (by rw [(show ax_N G (m + 1) = 353 from (hM.2.2 0 _ rfl).2.2)]; omega) (by rw [(show ax_N G (m + 2) = 353 from (hM.2.2 1 _ rfl).2.2)]; decide) (by rw [(show ax_N G (m + 1) = 353 from (hM.2.2 0 _ rfl).2.2)]; decide)) mlX11_117 ⟨by show d - 1 + 1 ≤ d; omega, by show 40 * (d - 1 + 1) ≤ 40 * d; omega⟩ ⟨Nat.le_refl _, Nat.le_refl _⟩ rfl (Nat.le_of_ble_eq_true rfl) (dk ddX11_again 11 rfl) ?_
  rintro v_ G_ I_ L_ ⟨rfl, rfl, rfl, rfl⟩
  refine x_aload_n C (dk ddX11_again 12 rfl) rfl ?_
  refine x_iconst C (v := nI 0) (dk ddX11_again 13 rfl) (by decide) ?_
  refine x_puti C flX11_113 fw11 rfl rfl (hM.lt (j := 0) (by decide)) hM.2.1 rfl rfl (dk ddX11_again 14 rfl) ?_
  refine x_aload_n C (dk ddX11_again 15 rfl) rfl ?_
  refine x_iconst C (v := nI 0) (dk ddX11_again 16 rfl) (by decide) ?_
  refine x_callV C (ci := 11) (As := [.int (nI 0)]) (k_X11_ofMaps_0 l D T o (d - 1) G (ax_u (ax_cp I (m + 2) (m + 1) 0 0 353) m 3 (nI 0)) L m hM (by omega)) mlX11_433 rfl rfl (hM.lt (j := 0) (by decide)) hM.2.1 ⟨by show d - 1 + 1 ≤ d; omega, by show 40 * (d - 1 + 1) ≤ 40 * d; omega⟩ ⟨Nat.le_refl _, Nat.le_refl _⟩ rfl (Nat.le_of_ble_eq_true rfl) (dk ddX11_again 17 rfl) ?_
  rintro v_ G_ I_ L_ ⟨rfl, rfl, rfl, rfl⟩
  exact x_iret C rfl ⟨by rw [ax_om_cp], rfl, rfl, rfl⟩ rfl rfl (dk ddX11_again 18 rfl)
