/-! ===== more of the reference's rows ===== -/
theorem ax_mulk (c x k : Nat) : nI c * nI x + nI k = nI (c * x + k) := by rw [pk_mul, nI_add]
/-- rows a and b of h change places, at the first n places -/
def ax_sw (h a b : Nat) : Nat → ax_L → ax_L
  | 0, L => L
  | n + 1, L => ax_u (ax_u (ax_sw h a b n L) h (6 * a + n) (ax_sw h a b n L h (6 * b + n))) h (6 * b + n) (ax_sw h a b n L h (6 * a + n))
set_option maxRecDepth 20000 in
/-- swaps(a, b) -/
theorem k_X11_swaps (l : Launch) (D : va_G) (T : Nat → ClassId) (o d : Nat) (G : ax_G) (I : ax_I) (L : ax_L) (m a b : Nat) (hM : ax_Mod G m) (ha : a < 16) (hb : b < 16) : ax_Con l D T o yX11_swaps cX11_swaps 6 none d 0 0 [.ref m, .int (nI a), .int (nI b)] G I L (fun v G' I' L' => v = none ∧ G = G' ∧ I = I' ∧ ax_sw (m + 4) a b 6 L = L') := by
  refine ax_enter (by decide +kernel) (Nat.le_of_ble_eq_true rfl) ?_
  intro p_ e_ s_ m_ args_ below_ meth_ c_ C _
  refine x_lvs (lv' := [(0, .ref m), (1, .int (nI a)), (2, .int (nI b))]) rfl ?_
  have hloop : ∀ (n k : Nat), k + n = 6 → ax_XM p_ l e_ s_ m_ args_ below_ meth_ c_ 6 D T o d 0 0 G (fun v G' I' L' => v = none ∧ G = G' ∧ I = I' ∧ ax_sw (m + 4) a b 6 L = L') G I (ax_sw (m + 4) a b k L) 2 [(3, .int (nI k)), (0, .ref m), (1, .int (nI a)), (2, .int (nI b))] [] := by
    intro n
    induction n with
    | zero =>
      intro k hk
      have hk6 : k = 6 := by omega
      subst hk6
      refine x_iload_n C (dk ddX11_swaps 2 rfl) rfl ?_
      refine x_bipush C (v := 6) (dk ddX11_swaps 3 rfl) (by decide) ?_
      refine x_icmp_ge C (tgt := 62) (dk ddX11_swaps 4 rfl) (by decide) (fun h1 => ?_) (fun h1 => absurd (by decide) h1)
      exact x_vret C rfl ⟨rfl, rfl, rfl, rfl⟩ rfl rfl (dk ddX11_swaps 41 rfl)
    | succ n ih =>
      intro k hk
      refine x_iload_n C (dk ddX11_swaps 2 rfl) rfl ?_
      refine x_bipush C (v := 6) (dk ddX11_swaps 3 rfl) (by decide) ?_
      refine x_icmp_ge C (tgt := 62) (dk ddX11_swaps 4 rfl) (by decide) (fun h1 => ?_) (fun h1 => ?_)
      · have h2 : 6 ≤ k := (nI_leI (a := 6) (b := k) (by decide) (by omega)).mp h1
        omega
      · refine x_aload_n C (dk ddX11_swaps 5 rfl) rfl ?_
        refine x_getr C flX11_19 rfl (hM.lt (j := 0) (by decide)) hM.2.1 (show ax_R G m 5 = some (m + 4) from (hM.2.2 3 _ rfl).1) (dk ddX11_swaps 6 rfl) ?_
        refine x_bipush C (v := 6) (dk ddX11_swaps 7 rfl) (by decide) ?_
        refine x_iload_n C (dk ddX11_swaps 8 rfl) rfl ?_
        refine x_imul C (dk ddX11_swaps 9 rfl) ?_
        refine x_iload_n C (dk ddX11_swaps 10 rfl) rfl ?_
        refine x_iadd C (dk ddX11_swaps 11 rfl) ?_
        rw [show ((6 * (nI a)) + (nI k) : Int32) = nI (6 * a + k) from ax_mulk 6 a k]
        refine x_lald C (hM.lt (by decide)) (hM.2.2 3 _ rfl).2.1 (by rw [show ax_N G (m + 4) = 96 from (hM.2.2 3 _ rfl).2.2]; exact vp_in_nI (by omega) (by decide)) (dk ddX11_swaps 12 rfl) ?_
        rw [pk_cl (x := nI (6 * a + k)) (6 * a + k)]
        refine x_lstore C (lv' := [(4, .long ((ax_sw (m + 4) a b k L) (m + 4) (6 * a + k))), (3, .int (nI k)), (0, .ref m), (1, .int (nI a)), (2, .int (nI b))]) (dk ddX11_swaps 13 rfl) (by decide) rfl ?_
        refine x_aload_n C (dk ddX11_swaps 14 rfl) rfl ?_
        refine x_getr C flX11_19 rfl (hM.lt (j := 0) (by decide)) hM.2.1 (show ax_R G m 5 = some (m + 4) from (hM.2.2 3 _ rfl).1) (dk ddX11_swaps 15 rfl) ?_
        refine x_bipush C (v := 6) (dk ddX11_swaps 16 rfl) (by decide) ?_
        refine x_iload_n C (dk ddX11_swaps 17 rfl) rfl ?_
        refine x_imul C (dk ddX11_swaps 18 rfl) ?_
        refine x_iload_n C (dk ddX11_swaps 19 rfl) rfl ?_
        refine x_iadd C (dk ddX11_swaps 20 rfl) ?_
        refine x_aload_n C (dk ddX11_swaps 21 rfl) rfl ?_
        refine x_getr C flX11_19 rfl (hM.lt (j := 0) (by decide)) hM.2.1 (show ax_R G m 5 = some (m + 4) from (hM.2.2 3 _ rfl).1) (dk ddX11_swaps 22 rfl) ?_
        refine x_bipush C (v := 6) (dk ddX11_swaps 23 rfl) (by decide) ?_
        refine x_iload_n C (dk ddX11_swaps 24 rfl) rfl ?_
        refine x_imul C (dk ddX11_swaps 25 rfl) ?_
        refine x_iload_n C (dk ddX11_swaps 26 rfl) rfl ?_
        refine x_iadd C (dk ddX11_swaps 27 rfl) ?_
        rw [show ((6 * (nI b)) + (nI k) : Int32) = nI (6 * b + k) from ax_mulk 6 b k]
        refine x_lald C (hM.lt (by decide)) (hM.2.2 3 _ rfl).2.1 (by rw [show ax_N G (m + 4) = 96 from (hM.2.2 3 _ rfl).2.2]; exact vp_in_nI (by omega) (by decide)) (dk ddX11_swaps 28 rfl) ?_
        rw [pk_cl (x := nI (6 * b + k)) (6 * b + k)]
        rw [show ((6 * (nI a)) + (nI k) : Int32) = nI (6 * a + k) from ax_mulk 6 a k]
        refine x_last C (hM.lt (by decide)) (hM.2.2 3 _ rfl).2.1 (by rw [show ax_N G (m + 4) = 96 from (hM.2.2 3 _ rfl).2.2]; exact vp_in_nI (by omega) (by decide)) (dk ddX11_swaps 29 rfl) ?_
        rw [pk_cl (x := nI (6 * a + k)) (6 * a + k)]
        refine x_aload_n C (dk ddX11_swaps 30 rfl) rfl ?_
        refine x_getr C flX11_19 rfl (hM.lt (j := 0) (by decide)) hM.2.1 (show ax_R G m 5 = some (m + 4) from (hM.2.2 3 _ rfl).1) (dk ddX11_swaps 31 rfl) ?_
        refine x_bipush C (v := 6) (dk ddX11_swaps 32 rfl) (by decide) ?_
        refine x_iload_n C (dk ddX11_swaps 33 rfl) rfl ?_
        refine x_imul C (dk ddX11_swaps 34 rfl) ?_
        refine x_iload_n C (dk ddX11_swaps 35 rfl) rfl ?_
        refine x_iadd C (dk ddX11_swaps 36 rfl) ?_
        refine x_lload C (dk ddX11_swaps 37 rfl) rfl ?_
        rw [show ((6 * (nI b)) + (nI k) : Int32) = nI (6 * b + k) from ax_mulk 6 b k]
        refine x_last C (hM.lt (by decide)) (hM.2.2 3 _ rfl).2.1 (by rw [show ax_N G (m + 4) = 96 from (hM.2.2 3 _ rfl).2.2]; exact vp_in_nI (by omega) (by decide)) (dk ddX11_swaps 38 rfl) ?_
        rw [pk_cl (x := nI (6 * b + k)) (6 * b + k)]
        refine x_iinc C (v := nI (k + 1)) (lv' := [(3, .int (nI (k + 1))), (4, .long ((ax_sw (m + 4) a b k L) (m + 4) (6 * a + k))), (0, .ref m), (1, .int (nI a)), (2, .int (nI b))]) (dk ddX11_swaps 39 rfl) rfl (nI_1 k) (by decide) rfl ?_
        refine x_goto C (tgt := 2) (dk ddX11_swaps 40 rfl) (by decide) ?_
        refine x_sub [0, 2, 3, 4] (lv' := [(3, .int (nI (k + 1))), (0, .ref m), (1, .int (nI a)), (2, .int (nI b))]) rfl ?_
        exact ih (k + 1) (by omega)
  refine x_iconst C (v := 0) (dk ddX11_swaps 0 rfl) (by decide) ?_
  refine x_istore_n C (lv' := [(3, .int (nI 0)), (0, .ref m), (1, .int (nI a)), (2, .int (nI b))]) (dk ddX11_swaps 1 rfl) (by decide) rfl ?_
  exact hloop 6 0 rfl
