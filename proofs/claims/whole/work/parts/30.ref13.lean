/-! ===== the reference: the grid ===== -/
/-- row i of the grid less row j, so often, the first so many places -/
def ax_gr (h i j : Nat) (b : Int64) : Nat → ax_L → ax_L
  | 0, L => L
  | n + 1, L => ax_u (ax_gr h i j b n L) h (3 * i + n) (ax_gr h i j b n L h (3 * i + n) - b * ax_gr h i j b n L h (3 * j + n))
def ax_gc (h i j : Nat) (b : Int64) : Nat → ax_L → ax_L
  | 0, L => L
  | n + 1, L => ax_u (ax_gc h i j b n L) h (3 * n + i) (ax_gc h i j b n L h (3 * n + i) - b * ax_gc h i j b n L h (3 * n + j))
/-- rows, columns change places -/
def ax_xr (h i j : Nat) : Nat → ax_L → ax_L
  | 0, L => L
  | n + 1, L => ax_u (ax_u (ax_xr h i j n L) h (3 * i + n) (ax_xr h i j n L h (3 * j + n))) h (3 * j + n) (ax_xr h i j n L h (3 * i + n))
def ax_xc (h i j : Nat) : Nat → ax_L → ax_L
  | 0, L => L
  | n + 1, L => ax_u (ax_u (ax_xc h i j n L) h (3 * n + i) (ax_xc h i j n L h (3 * n + j))) h (3 * n + j) (ax_xc h i j n L h (3 * n + i))
set_option maxRecDepth 20000 in
/-- adds -/
theorem k_X11_adds_row (l : Launch) (D : va_G) (T : Nat → ClassId) (o d : Nat) (G : ax_G) (I : ax_I) (L : ax_L) (m i j t wd : Nat) (b : Int64) (hM : ax_Mod G m) (hT : I m 16 = nI t) (ht : t ≤ 8) (hW : I m 17 = nI wd) (hw : wd ≤ 3) (hi : i < 8) (hj : j < 8) (hd : 0 ≤ d) : ax_Con l D T o yX11_adds cX11_adds 7 none d 0 0 [.ref m, .int (nI i), .int (nI j), .int (nI 1), .long b] G I L (fun v G' I' L' => v = none ∧ G = G' ∧ I = I' ∧ ax_gr (m + 12) i j b wd L = L') := by
  refine ax_enter (by decide +kernel) (Nat.le_of_ble_eq_true rfl) ?_
  intro p_ e_ s_ m_ args_ below_ meth_ c_ C _
  refine x_lvs (lv' := [(0, .ref m), (1, .int (nI i)), (2, .int (nI j)), (3, .int (nI 1)), (4, .long b)]) rfl ?_
  have hloop : ∀ (n_ k : Nat), k + n_ = wd → ax_XM p_ l e_ s_ m_ args_ below_ meth_ c_ 7 D T o d 0 0 G (fun v G' I' L' => v = none ∧ G = G' ∧ I = I' ∧ ax_gr (m + 12) i j b wd L = L') G I (ax_gr (m + 12) i j b k L) 3 [(6, .int (nI k)), (0, .ref m), (1, .int (nI i)), (2, .int (nI j)), (3, .int (nI 1)), (4, .long b)] [] := by
    intro n_
    induction n_ with
    | zero =>
      intro k hk_
      rw [show k = wd by omega]
      refine x_iload C (dk ddX11_adds 2 rfl) rfl ?_
      refine x_iload_n C (dk ddX11_adds 3 rfl) rfl ?_
      refine x_if_eq_n C (tgt := 16) (dk ddX11_adds 4 rfl) (by decide) (by decide) (fun h_ => absurd h_ (by decide)) (fun _ => ?_)
      refine x_aload_n C (dk ddX11_adds 5 rfl) rfl ?_
      refine x_geti C flX11_222 rfl (hM.lt (j := 0) (by decide)) hM.2.1 (dk ddX11_adds 6 rfl) ?_
      rw [show (I m 17) = nI wd from hW]
      refine x_goto C (tgt := 20) (dk ddX11_adds 7 rfl) (by decide) ?_
      refine x_icmp_ge_n C (tgt := 92) (dk ddX11_adds 10 rfl) (by decide) (by omega) (by omega) (fun h20 => ?_) (fun h20 => ?_)
      · exact x_vret C rfl ⟨rfl, rfl, rfl, rfl⟩ rfl rfl (dk ddX11_adds 58 rfl)
      · exfalso
        omega
    | succ n_ ih_ =>
      intro k hk_
      refine x_iload C (dk ddX11_adds 2 rfl) rfl ?_
      refine x_iload_n C (dk ddX11_adds 3 rfl) rfl ?_
      refine x_if_eq_n C (tgt := 16) (dk ddX11_adds 4 rfl) (by decide) (by decide) (fun h_ => absurd h_ (by decide)) (fun _ => ?_)
      refine x_aload_n C (dk ddX11_adds 5 rfl) rfl ?_
      refine x_geti C flX11_222 rfl (hM.lt (j := 0) (by decide)) hM.2.1 (dk ddX11_adds 6 rfl) ?_
      rw [show (I m 17) = nI wd from hW]
      refine x_goto C (tgt := 20) (dk ddX11_adds 7 rfl) (by decide) ?_
      refine x_icmp_ge_n C (tgt := 92) (dk ddX11_adds 10 rfl) (by decide) (by omega) (by omega) (fun h20 => ?_) (fun h20 => ?_)
      · exfalso
        omega
      · refine x_iload_n C (dk ddX11_adds 11 rfl) rfl ?_
        refine x_if_eq_n C (tgt := 58) (dk ddX11_adds 12 rfl) (by decide) (by decide) (fun h_ => absurd h_ (by decide)) (fun _ => ?_)
        refine x_aload_n C (dk ddX11_adds 13 rfl) rfl ?_
        refine x_getr C flX11_44 rfl (hM.lt (j := 0) (by decide)) hM.2.1 (show ax_R G m 14 = some (m + 12) from (hM.2.2 11 _ rfl).1) (dk ddX11_adds 14 rfl) ?_
        refine x_iconst C (v := nI 3) (dk ddX11_adds 15 rfl) (by decide) ?_
        refine x_iload_n C (dk ddX11_adds 16 rfl) rfl ?_
        refine x_imul_n C (dk ddX11_adds 17 rfl) ?_
        refine x_iload C (dk ddX11_adds 18 rfl) rfl ?_
        refine x_iadd_n C (dk ddX11_adds 19 rfl) ?_
        refine x_dup2 C (dk ddX11_adds 20 rfl) rfl rfl ?_
        refine x_lald_n C (hM.lt (j := 12) (by decide)) (hM.2.2 11 _ rfl).2.1 (show ax_N G (m + 12) = 24 from (hM.2.2 11 _ rfl).2.2) (by omega) (by decide) (dk ddX11_adds 21 rfl) ?_
        refine x_lload C (dk ddX11_adds 22 rfl) rfl ?_
        refine x_aload_n C (dk ddX11_adds 23 rfl) rfl ?_
        refine x_getr C flX11_44 rfl (hM.lt (j := 0) (by decide)) hM.2.1 (show ax_R G m 14 = some (m + 12) from (hM.2.2 11 _ rfl).1) (dk ddX11_adds 24 rfl) ?_
        refine x_iconst C (v := nI 3) (dk ddX11_adds 25 rfl) (by decide) ?_
        refine x_iload_n C (dk ddX11_adds 26 rfl) rfl ?_
        refine x_imul_n C (dk ddX11_adds 27 rfl) ?_
        refine x_iload C (dk ddX11_adds 28 rfl) rfl ?_
        refine x_iadd_n C (dk ddX11_adds 29 rfl) ?_
        refine x_lald_n C (hM.lt (j := 12) (by decide)) (hM.2.2 11 _ rfl).2.1 (show ax_N G (m + 12) = 24 from (hM.2.2 11 _ rfl).2.2) (by omega) (by decide) (dk ddX11_adds 30 rfl) ?_
        refine x_lmul C (dk ddX11_adds 31 rfl) ?_
        refine x_lsub C (dk ddX11_adds 32 rfl) ?_
        refine x_last_n C (hM.lt (j := 12) (by decide)) (hM.2.2 11 _ rfl).2.1 (show ax_N G (m + 12) = 24 from (hM.2.2 11 _ rfl).2.2) (by omega) (by decide) (dk ddX11_adds 33 rfl) ?_
        refine x_goto C (tgt := 86) (dk ddX11_adds 34 rfl) (by decide) ?_
        refine x_iinc C (v := nI (k + 1)) (lv' := [(6, .int (nI (k + 1))), (0, .ref m), (1, .int (nI i)), (2, .int (nI j)), (3, .int (nI 1)), (4, .long b)]) (dk ddX11_adds 56 rfl) rfl (nI_add k 1) (by decide) rfl ?_
        refine x_goto C (tgt := 3) (dk ddX11_adds 57 rfl) (by decide) ?_
        refine x_sub [0, 1, 2, 3, 4, 5] (lv' := [(6, .int (nI (k + 1))), (0, .ref m), (1, .int (nI i)), (2, .int (nI j)), (3, .int (nI 1)), (4, .long b)]) rfl ?_
        exact ih_ (k + 1) (by omega)
  refine x_iconst C (v := nI 0) (dk ddX11_adds 0 rfl) (by decide) ?_
  refine x_istore C (lv' := [(6, .int (nI 0)), (0, .ref m), (1, .int (nI i)), (2, .int (nI j)), (3, .int (nI 1)), (4, .long b)]) (dk ddX11_adds 1 rfl) (by decide) rfl ?_
  exact hloop wd 0 (by omega)
set_option maxRecDepth 20000 in
/-- changesPlaces -/
theorem k_X11_changesPlaces_row (l : Launch) (D : va_G) (T : Nat → ClassId) (o d : Nat) (G : ax_G) (I : ax_I) (L : ax_L) (m i j t wd : Nat) (hM : ax_Mod G m) (hT : I m 16 = nI t) (ht : t ≤ 8) (hW : I m 17 = nI wd) (hw : wd ≤ 3) (hi : i < 8) (hj : j < 8) (hd : 0 ≤ d) : ax_Con l D T o yX11_changesPlaces cX11_changesPlaces 9 none d 0 0 [.ref m, .int (nI i), .int (nI j), .int (nI 1)] G I L (fun v G' I' L' => v = none ∧ G = G' ∧ I = I' ∧ ax_xr (m + 12) i j wd L = L') := by
  refine ax_enter (by decide +kernel) (Nat.le_of_ble_eq_true rfl) ?_
  intro p_ e_ s_ m_ args_ below_ meth_ c_ C _
  refine x_lvs (lv' := [(0, .ref m), (1, .int (nI i)), (2, .int (nI j)), (3, .int (nI 1))]) rfl ?_
  have hloop : ∀ (n_ k : Nat), k + n_ = wd → ax_XM p_ l e_ s_ m_ args_ below_ meth_ c_ 9 D T o d 0 0 G (fun v G' I' L' => v = none ∧ G = G' ∧ I = I' ∧ ax_xr (m + 12) i j wd L = L') G I (ax_xr (m + 12) i j k L) 3 [(4, .int (nI k)), (0, .ref m), (1, .int (nI i)), (2, .int (nI j)), (3, .int (nI 1))] [] := by
    intro n_
    induction n_ with
    | zero =>
      intro k hk_
      rw [show k = wd by omega]
      refine x_iload C (dk ddX11_changesPlaces 2 rfl) rfl ?_
      refine x_iload_n C (dk ddX11_changesPlaces 3 rfl) rfl ?_
      refine x_if_eq_n C (tgt := 16) (dk ddX11_changesPlaces 4 rfl) (by decide) (by decide) (fun h_ => absurd h_ (by decide)) (fun _ => ?_)
      refine x_aload_n C (dk ddX11_changesPlaces 5 rfl) rfl ?_
      refine x_geti C flX11_222 rfl (hM.lt (j := 0) (by decide)) hM.2.1 (dk ddX11_changesPlaces 6 rfl) ?_
      rw [show (I m 17) = nI wd from hW]
      refine x_goto C (tgt := 20) (dk ddX11_changesPlaces 7 rfl) (by decide) ?_
      refine x_icmp_ge_n C (tgt := 103) (dk ddX11_changesPlaces 10 rfl) (by decide) (by omega) (by omega) (fun h20 => ?_) (fun h20 => ?_)
      · exact x_vret C rfl ⟨rfl, rfl, rfl, rfl⟩ rfl rfl (dk ddX11_changesPlaces 59 rfl)
      · exfalso
        omega
    | succ n_ ih_ =>
      intro k hk_
      refine x_iload C (dk ddX11_changesPlaces 2 rfl) rfl ?_
      refine x_iload_n C (dk ddX11_changesPlaces 3 rfl) rfl ?_
      refine x_if_eq_n C (tgt := 16) (dk ddX11_changesPlaces 4 rfl) (by decide) (by decide) (fun h_ => absurd h_ (by decide)) (fun _ => ?_)
      refine x_aload_n C (dk ddX11_changesPlaces 5 rfl) rfl ?_
      refine x_geti C flX11_222 rfl (hM.lt (j := 0) (by decide)) hM.2.1 (dk ddX11_changesPlaces 6 rfl) ?_
      rw [show (I m 17) = nI wd from hW]
      refine x_goto C (tgt := 20) (dk ddX11_changesPlaces 7 rfl) (by decide) ?_
      refine x_icmp_ge_n C (tgt := 103) (dk ddX11_changesPlaces 10 rfl) (by decide) (by omega) (by omega) (fun h20 => ?_) (fun h20 => ?_)
      · exfalso
        omega
      · refine x_iload_n C (dk ddX11_changesPlaces 11 rfl) rfl ?_
        refine x_if_eq_n C (tgt := 36) (dk ddX11_changesPlaces 12 rfl) (by decide) (by decide) (fun h_ => absurd h_ (by decide)) (fun _ => ?_)
        refine x_iconst C (v := nI 3) (dk ddX11_changesPlaces 13 rfl) (by decide) ?_
        refine x_iload_n C (dk ddX11_changesPlaces 14 rfl) rfl ?_
        refine x_imul_n C (dk ddX11_changesPlaces 15 rfl) ?_
        refine x_iload C (dk ddX11_changesPlaces 16 rfl) rfl ?_
        refine x_iadd_n C (dk ddX11_changesPlaces 17 rfl) ?_
        refine x_goto C (tgt := 42) (dk ddX11_changesPlaces 18 rfl) (by decide) ?_
        refine x_istore C (lv' := [(5, .int (nI (3 * i + k))), (4, .int (nI k)), (0, .ref m), (1, .int (nI i)), (2, .int (nI j)), (3, .int (nI 1))]) (dk ddX11_changesPlaces 24 rfl) (by decide) rfl ?_
        refine x_iload_n C (dk ddX11_changesPlaces 25 rfl) rfl ?_
        refine x_if_eq_n C (tgt := 57) (dk ddX11_changesPlaces 26 rfl) (by decide) (by decide) (fun h_ => absurd h_ (by decide)) (fun _ => ?_)
        refine x_iconst C (v := nI 3) (dk ddX11_changesPlaces 27 rfl) (by decide) ?_
        refine x_iload_n C (dk ddX11_changesPlaces 28 rfl) rfl ?_
        refine x_imul_n C (dk ddX11_changesPlaces 29 rfl) ?_
        refine x_iload C (dk ddX11_changesPlaces 30 rfl) rfl ?_
        refine x_iadd_n C (dk ddX11_changesPlaces 31 rfl) ?_
        refine x_goto C (tgt := 63) (dk ddX11_changesPlaces 32 rfl) (by decide) ?_
        refine x_istore C (lv' := [(6, .int (nI (3 * j + k))), (5, .int (nI (3 * i + k))), (4, .int (nI k)), (0, .ref m), (1, .int (nI i)), (2, .int (nI j)), (3, .int (nI 1))]) (dk ddX11_changesPlaces 38 rfl) (by decide) rfl ?_
        refine x_aload_n C (dk ddX11_changesPlaces 39 rfl) rfl ?_
        refine x_getr C flX11_44 rfl (hM.lt (j := 0) (by decide)) hM.2.1 (show ax_R G m 14 = some (m + 12) from (hM.2.2 11 _ rfl).1) (dk ddX11_changesPlaces 40 rfl) ?_
        refine x_iload C (dk ddX11_changesPlaces 41 rfl) rfl ?_
        refine x_lald_n C (hM.lt (j := 12) (by decide)) (hM.2.2 11 _ rfl).2.1 (show ax_N G (m + 12) = 24 from (hM.2.2 11 _ rfl).2.2) (by omega) (by decide) (dk ddX11_changesPlaces 42 rfl) ?_
        refine x_lstore C (lv' := [(7, .long ((ax_xr (m + 12) i j k L) (m + 12) (3 * i + k))), (6, .int (nI (3 * j + k))), (5, .int (nI (3 * i + k))), (4, .int (nI k)), (0, .ref m), (1, .int (nI i)), (2, .int (nI j)), (3, .int (nI 1))]) (dk ddX11_changesPlaces 43 rfl) (by decide) rfl ?_
        refine x_aload_n C (dk ddX11_changesPlaces 44 rfl) rfl ?_
        refine x_getr C flX11_44 rfl (hM.lt (j := 0) (by decide)) hM.2.1 (show ax_R G m 14 = some (m + 12) from (hM.2.2 11 _ rfl).1) (dk ddX11_changesPlaces 45 rfl) ?_
        refine x_iload C (dk ddX11_changesPlaces 46 rfl) rfl ?_
        refine x_aload_n C (dk ddX11_changesPlaces 47 rfl) rfl ?_
        refine x_getr C flX11_44 rfl (hM.lt (j := 0) (by decide)) hM.2.1 (show ax_R G m 14 = some (m + 12) from (hM.2.2 11 _ rfl).1) (dk ddX11_changesPlaces 48 rfl) ?_
        refine x_iload C (dk ddX11_changesPlaces 49 rfl) rfl ?_
        refine x_lald_n C (hM.lt (j := 12) (by decide)) (hM.2.2 11 _ rfl).2.1 (show ax_N G (m + 12) = 24 from (hM.2.2 11 _ rfl).2.2) (by omega) (by decide) (dk ddX11_changesPlaces 50 rfl) ?_
        refine x_last_n C (hM.lt (j := 12) (by decide)) (hM.2.2 11 _ rfl).2.1 (show ax_N G (m + 12) = 24 from (hM.2.2 11 _ rfl).2.2) (by omega) (by decide) (dk ddX11_changesPlaces 51 rfl) ?_
        refine x_aload_n C (dk ddX11_changesPlaces 52 rfl) rfl ?_
        refine x_getr C flX11_44 rfl (hM.lt (j := 0) (by decide)) hM.2.1 (show ax_R G m 14 = some (m + 12) from (hM.2.2 11 _ rfl).1) (dk ddX11_changesPlaces 53 rfl) ?_
        refine x_iload C (dk ddX11_changesPlaces 54 rfl) rfl ?_
        refine x_lload C (dk ddX11_changesPlaces 55 rfl) rfl ?_
        refine x_last_n C (hM.lt (j := 12) (by decide)) (hM.2.2 11 _ rfl).2.1 (show ax_N G (m + 12) = 24 from (hM.2.2 11 _ rfl).2.2) (by omega) (by decide) (dk ddX11_changesPlaces 56 rfl) ?_
        refine x_iinc C (v := nI (k + 1)) (lv' := [(4, .int (nI (k + 1))), (7, .long ((ax_xr (m + 12) i j k L) (m + 12) (3 * i + k))), (6, .int (nI (3 * j + k))), (5, .int (nI (3 * i + k))), (0, .ref m), (1, .int (nI i)), (2, .int (nI j)), (3, .int (nI 1))]) (dk ddX11_changesPlaces 57 rfl) rfl (nI_add k 1) (by decide) rfl ?_
        refine x_goto C (tgt := 3) (dk ddX11_changesPlaces 58 rfl) (by decide) ?_
        refine x_sub [0, 4, 5, 6, 7] (lv' := [(4, .int (nI (k + 1))), (0, .ref m), (1, .int (nI i)), (2, .int (nI j)), (3, .int (nI 1))]) rfl ?_
        exact ih_ (k + 1) (by omega)
  refine x_iconst C (v := nI 0) (dk ddX11_changesPlaces 0 rfl) (by decide) ?_
  refine x_istore C (lv' := [(4, .int (nI 0)), (0, .ref m), (1, .int (nI i)), (2, .int (nI j)), (3, .int (nI 1))]) (dk ddX11_changesPlaces 1 rfl) (by decide) rfl ?_
  exact hloop wd 0 (by omega)
set_option maxRecDepth 20000 in
/-- adds -/
theorem k_X11_adds_col (l : Launch) (D : va_G) (T : Nat → ClassId) (o d : Nat) (G : ax_G) (I : ax_I) (L : ax_L) (m i j t wd : Nat) (b : Int64) (hM : ax_Mod G m) (hT : I m 16 = nI t) (ht : t ≤ 8) (hW : I m 17 = nI wd) (hw : wd ≤ 3) (hi : i < 3) (hj : j < 3) (hd : 0 ≤ d) : ax_Con l D T o yX11_adds cX11_adds 7 none d 0 0 [.ref m, .int (nI i), .int (nI j), .int (nI 0), .long b] G I L (fun v G' I' L' => v = none ∧ G = G' ∧ I = I' ∧ ax_gc (m + 12) i j b t L = L') := by
  refine ax_enter (by decide +kernel) (Nat.le_of_ble_eq_true rfl) ?_
  intro p_ e_ s_ m_ args_ below_ meth_ c_ C _
  refine x_lvs (lv' := [(0, .ref m), (1, .int (nI i)), (2, .int (nI j)), (3, .int (nI 0)), (4, .long b)]) rfl ?_
  have hloop : ∀ (n_ k : Nat), k + n_ = t → ax_XM p_ l e_ s_ m_ args_ below_ meth_ c_ 7 D T o d 0 0 G (fun v G' I' L' => v = none ∧ G = G' ∧ I = I' ∧ ax_gc (m + 12) i j b t L = L') G I (ax_gc (m + 12) i j b k L) 3 [(6, .int (nI k)), (0, .ref m), (1, .int (nI i)), (2, .int (nI j)), (3, .int (nI 0)), (4, .long b)] [] := by
    intro n_
    induction n_ with
    | zero =>
      intro k hk_
      rw [show k = t by omega]
      refine x_iload C (dk ddX11_adds 2 rfl) rfl ?_
      refine x_iload_n C (dk ddX11_adds 3 rfl) rfl ?_
      refine x_if_eq_n C (tgt := 16) (dk ddX11_adds 4 rfl) (by decide) (by decide) (fun _ => ?_) (fun h_ => absurd h_ (by decide))
      refine x_aload_n C (dk ddX11_adds 8 rfl) rfl ?_
      refine x_geti C flX11_225 rfl (hM.lt (j := 0) (by decide)) hM.2.1 (dk ddX11_adds 9 rfl) ?_
      rw [show (I m 16) = nI t from hT]
      refine x_icmp_ge_n C (tgt := 92) (dk ddX11_adds 10 rfl) (by decide) (by omega) (by omega) (fun h20 => ?_) (fun h20 => ?_)
      · exact x_vret C rfl ⟨rfl, rfl, rfl, rfl⟩ rfl rfl (dk ddX11_adds 58 rfl)
      · exfalso
        omega
    | succ n_ ih_ =>
      intro k hk_
      refine x_iload C (dk ddX11_adds 2 rfl) rfl ?_
      refine x_iload_n C (dk ddX11_adds 3 rfl) rfl ?_
      refine x_if_eq_n C (tgt := 16) (dk ddX11_adds 4 rfl) (by decide) (by decide) (fun _ => ?_) (fun h_ => absurd h_ (by decide))
      refine x_aload_n C (dk ddX11_adds 8 rfl) rfl ?_
      refine x_geti C flX11_225 rfl (hM.lt (j := 0) (by decide)) hM.2.1 (dk ddX11_adds 9 rfl) ?_
      rw [show (I m 16) = nI t from hT]
      refine x_icmp_ge_n C (tgt := 92) (dk ddX11_adds 10 rfl) (by decide) (by omega) (by omega) (fun h20 => ?_) (fun h20 => ?_)
      · exfalso
        omega
      · refine x_iload_n C (dk ddX11_adds 11 rfl) rfl ?_
        refine x_if_eq_n C (tgt := 58) (dk ddX11_adds 12 rfl) (by decide) (by decide) (fun _ => ?_) (fun h_ => absurd h_ (by decide))
        refine x_aload_n C (dk ddX11_adds 35 rfl) rfl ?_
        refine x_getr C flX11_44 rfl (hM.lt (j := 0) (by decide)) hM.2.1 (show ax_R G m 14 = some (m + 12) from (hM.2.2 11 _ rfl).1) (dk ddX11_adds 36 rfl) ?_
        refine x_iconst C (v := nI 3) (dk ddX11_adds 37 rfl) (by decide) ?_
        refine x_iload C (dk ddX11_adds 38 rfl) rfl ?_
        refine x_imul_n C (dk ddX11_adds 39 rfl) ?_
        refine x_iload_n C (dk ddX11_adds 40 rfl) rfl ?_
        refine x_iadd_n C (dk ddX11_adds 41 rfl) ?_
        refine x_dup2 C (dk ddX11_adds 42 rfl) rfl rfl ?_
        refine x_lald_n C (hM.lt (j := 12) (by decide)) (hM.2.2 11 _ rfl).2.1 (show ax_N G (m + 12) = 24 from (hM.2.2 11 _ rfl).2.2) (by omega) (by decide) (dk ddX11_adds 43 rfl) ?_
        refine x_lload C (dk ddX11_adds 44 rfl) rfl ?_
        refine x_aload_n C (dk ddX11_adds 45 rfl) rfl ?_
        refine x_getr C flX11_44 rfl (hM.lt (j := 0) (by decide)) hM.2.1 (show ax_R G m 14 = some (m + 12) from (hM.2.2 11 _ rfl).1) (dk ddX11_adds 46 rfl) ?_
        refine x_iconst C (v := nI 3) (dk ddX11_adds 47 rfl) (by decide) ?_
        refine x_iload C (dk ddX11_adds 48 rfl) rfl ?_
        refine x_imul_n C (dk ddX11_adds 49 rfl) ?_
        refine x_iload_n C (dk ddX11_adds 50 rfl) rfl ?_
        refine x_iadd_n C (dk ddX11_adds 51 rfl) ?_
        refine x_lald_n C (hM.lt (j := 12) (by decide)) (hM.2.2 11 _ rfl).2.1 (show ax_N G (m + 12) = 24 from (hM.2.2 11 _ rfl).2.2) (by omega) (by decide) (dk ddX11_adds 52 rfl) ?_
        refine x_lmul C (dk ddX11_adds 53 rfl) ?_
        refine x_lsub C (dk ddX11_adds 54 rfl) ?_
        refine x_last_n C (hM.lt (j := 12) (by decide)) (hM.2.2 11 _ rfl).2.1 (show ax_N G (m + 12) = 24 from (hM.2.2 11 _ rfl).2.2) (by omega) (by decide) (dk ddX11_adds 55 rfl) ?_
        refine x_iinc C (v := nI (k + 1)) (lv' := [(6, .int (nI (k + 1))), (0, .ref m), (1, .int (nI i)), (2, .int (nI j)), (3, .int (nI 0)), (4, .long b)]) (dk ddX11_adds 56 rfl) rfl (nI_add k 1) (by decide) rfl ?_
        refine x_goto C (tgt := 3) (dk ddX11_adds 57 rfl) (by decide) ?_
        refine x_sub [0, 1, 2, 3, 4, 5] (lv' := [(6, .int (nI (k + 1))), (0, .ref m), (1, .int (nI i)), (2, .int (nI j)), (3, .int (nI 0)), (4, .long b)]) rfl ?_
        exact ih_ (k + 1) (by omega)
  refine x_iconst C (v := nI 0) (dk ddX11_adds 0 rfl) (by decide) ?_
  refine x_istore C (lv' := [(6, .int (nI 0)), (0, .ref m), (1, .int (nI i)), (2, .int (nI j)), (3, .int (nI 0)), (4, .long b)]) (dk ddX11_adds 1 rfl) (by decide) rfl ?_
  exact hloop t 0 (by omega)
set_option maxRecDepth 20000 in
/-- changesPlaces -/
theorem k_X11_changesPlaces_col (l : Launch) (D : va_G) (T : Nat → ClassId) (o d : Nat) (G : ax_G) (I : ax_I) (L : ax_L) (m i j t wd : Nat) (hM : ax_Mod G m) (hT : I m 16 = nI t) (ht : t ≤ 8) (hW : I m 17 = nI wd) (hw : wd ≤ 3) (hi : i < 3) (hj : j < 3) (hd : 0 ≤ d) : ax_Con l D T o yX11_changesPlaces cX11_changesPlaces 9 none d 0 0 [.ref m, .int (nI i), .int (nI j), .int (nI 0)] G I L (fun v G' I' L' => v = none ∧ G = G' ∧ I = I' ∧ ax_xc (m + 12) i j t L = L') := by
  refine ax_enter (by decide +kernel) (Nat.le_of_ble_eq_true rfl) ?_
  intro p_ e_ s_ m_ args_ below_ meth_ c_ C _
  refine x_lvs (lv' := [(0, .ref m), (1, .int (nI i)), (2, .int (nI j)), (3, .int (nI 0))]) rfl ?_
  have hloop : ∀ (n_ k : Nat), k + n_ = t → ax_XM p_ l e_ s_ m_ args_ below_ meth_ c_ 9 D T o d 0 0 G (fun v G' I' L' => v = none ∧ G = G' ∧ I = I' ∧ ax_xc (m + 12) i j t L = L') G I (ax_xc (m + 12) i j k L) 3 [(4, .int (nI k)), (0, .ref m), (1, .int (nI i)), (2, .int (nI j)), (3, .int (nI 0))] [] := by
    intro n_
    induction n_ with
    | zero =>
      intro k hk_
      rw [show k = t by omega]
      refine x_iload C (dk ddX11_changesPlaces 2 rfl) rfl ?_
      refine x_iload_n C (dk ddX11_changesPlaces 3 rfl) rfl ?_
      refine x_if_eq_n C (tgt := 16) (dk ddX11_changesPlaces 4 rfl) (by decide) (by decide) (fun _ => ?_) (fun h_ => absurd h_ (by decide))
      refine x_aload_n C (dk ddX11_changesPlaces 8 rfl) rfl ?_
      refine x_geti C flX11_225 rfl (hM.lt (j := 0) (by decide)) hM.2.1 (dk ddX11_changesPlaces 9 rfl) ?_
      rw [show (I m 16) = nI t from hT]
      refine x_icmp_ge_n C (tgt := 103) (dk ddX11_changesPlaces 10 rfl) (by decide) (by omega) (by omega) (fun h20 => ?_) (fun h20 => ?_)
      · exact x_vret C rfl ⟨rfl, rfl, rfl, rfl⟩ rfl rfl (dk ddX11_changesPlaces 59 rfl)
      · exfalso
        omega
    | succ n_ ih_ =>
      intro k hk_
      refine x_iload C (dk ddX11_changesPlaces 2 rfl) rfl ?_
      refine x_iload_n C (dk ddX11_changesPlaces 3 rfl) rfl ?_
      refine x_if_eq_n C (tgt := 16) (dk ddX11_changesPlaces 4 rfl) (by decide) (by decide) (fun _ => ?_) (fun h_ => absurd h_ (by decide))
      refine x_aload_n C (dk ddX11_changesPlaces 8 rfl) rfl ?_
      refine x_geti C flX11_225 rfl (hM.lt (j := 0) (by decide)) hM.2.1 (dk ddX11_changesPlaces 9 rfl) ?_
      rw [show (I m 16) = nI t from hT]
      refine x_icmp_ge_n C (tgt := 103) (dk ddX11_changesPlaces 10 rfl) (by decide) (by omega) (by omega) (fun h20 => ?_) (fun h20 => ?_)
      · exfalso
        omega
      · refine x_iload_n C (dk ddX11_changesPlaces 11 rfl) rfl ?_
        refine x_if_eq_n C (tgt := 36) (dk ddX11_changesPlaces 12 rfl) (by decide) (by decide) (fun _ => ?_) (fun h_ => absurd h_ (by decide))
        refine x_iconst C (v := nI 3) (dk ddX11_changesPlaces 19 rfl) (by decide) ?_
        refine x_iload C (dk ddX11_changesPlaces 20 rfl) rfl ?_
        refine x_imul_n C (dk ddX11_changesPlaces 21 rfl) ?_
        refine x_iload_n C (dk ddX11_changesPlaces 22 rfl) rfl ?_
        refine x_iadd_n C (dk ddX11_changesPlaces 23 rfl) ?_
        refine x_istore C (lv' := [(5, .int (nI (3 * k + i))), (4, .int (nI k)), (0, .ref m), (1, .int (nI i)), (2, .int (nI j)), (3, .int (nI 0))]) (dk ddX11_changesPlaces 24 rfl) (by decide) rfl ?_
        refine x_iload_n C (dk ddX11_changesPlaces 25 rfl) rfl ?_
        refine x_if_eq_n C (tgt := 57) (dk ddX11_changesPlaces 26 rfl) (by decide) (by decide) (fun _ => ?_) (fun h_ => absurd h_ (by decide))
        refine x_iconst C (v := nI 3) (dk ddX11_changesPlaces 33 rfl) (by decide) ?_
        refine x_iload C (dk ddX11_changesPlaces 34 rfl) rfl ?_
        refine x_imul_n C (dk ddX11_changesPlaces 35 rfl) ?_
        refine x_iload_n C (dk ddX11_changesPlaces 36 rfl) rfl ?_
        refine x_iadd_n C (dk ddX11_changesPlaces 37 rfl) ?_
        refine x_istore C (lv' := [(6, .int (nI (3 * k + j))), (5, .int (nI (3 * k + i))), (4, .int (nI k)), (0, .ref m), (1, .int (nI i)), (2, .int (nI j)), (3, .int (nI 0))]) (dk ddX11_changesPlaces 38 rfl) (by decide) rfl ?_
        refine x_aload_n C (dk ddX11_changesPlaces 39 rfl) rfl ?_
        refine x_getr C flX11_44 rfl (hM.lt (j := 0) (by decide)) hM.2.1 (show ax_R G m 14 = some (m + 12) from (hM.2.2 11 _ rfl).1) (dk ddX11_changesPlaces 40 rfl) ?_
        refine x_iload C (dk ddX11_changesPlaces 41 rfl) rfl ?_
        refine x_lald_n C (hM.lt (j := 12) (by decide)) (hM.2.2 11 _ rfl).2.1 (show ax_N G (m + 12) = 24 from (hM.2.2 11 _ rfl).2.2) (by omega) (by decide) (dk ddX11_changesPlaces 42 rfl) ?_
        refine x_lstore C (lv' := [(7, .long ((ax_xc (m + 12) i j k L) (m + 12) (3 * k + i))), (6, .int (nI (3 * k + j))), (5, .int (nI (3 * k + i))), (4, .int (nI k)), (0, .ref m), (1, .int (nI i)), (2, .int (nI j)), (3, .int (nI 0))]) (dk ddX11_changesPlaces 43 rfl) (by decide) rfl ?_
        refine x_aload_n C (dk ddX11_changesPlaces 44 rfl) rfl ?_
        refine x_getr C flX11_44 rfl (hM.lt (j := 0) (by decide)) hM.2.1 (show ax_R G m 14 = some (m + 12) from (hM.2.2 11 _ rfl).1) (dk ddX11_changesPlaces 45 rfl) ?_
        refine x_iload C (dk ddX11_changesPlaces 46 rfl) rfl ?_
        refine x_aload_n C (dk ddX11_changesPlaces 47 rfl) rfl ?_
        refine x_getr C flX11_44 rfl (hM.lt (j := 0) (by decide)) hM.2.1 (show ax_R G m 14 = some (m + 12) from (hM.2.2 11 _ rfl).1) (dk ddX11_changesPlaces 48 rfl) ?_
        refine x_iload C (dk ddX11_changesPlaces 49 rfl) rfl ?_
        refine x_lald_n C (hM.lt (j := 12) (by decide)) (hM.2.2 11 _ rfl).2.1 (show ax_N G (m + 12) = 24 from (hM.2.2 11 _ rfl).2.2) (by omega) (by decide) (dk ddX11_changesPlaces 50 rfl) ?_
        refine x_last_n C (hM.lt (j := 12) (by decide)) (hM.2.2 11 _ rfl).2.1 (show ax_N G (m + 12) = 24 from (hM.2.2 11 _ rfl).2.2) (by omega) (by decide) (dk ddX11_changesPlaces 51 rfl) ?_
        refine x_aload_n C (dk ddX11_changesPlaces 52 rfl) rfl ?_
        refine x_getr C flX11_44 rfl (hM.lt (j := 0) (by decide)) hM.2.1 (show ax_R G m 14 = some (m + 12) from (hM.2.2 11 _ rfl).1) (dk ddX11_changesPlaces 53 rfl) ?_
        refine x_iload C (dk ddX11_changesPlaces 54 rfl) rfl ?_
        refine x_lload C (dk ddX11_changesPlaces 55 rfl) rfl ?_
        refine x_last_n C (hM.lt (j := 12) (by decide)) (hM.2.2 11 _ rfl).2.1 (show ax_N G (m + 12) = 24 from (hM.2.2 11 _ rfl).2.2) (by omega) (by decide) (dk ddX11_changesPlaces 56 rfl) ?_
        refine x_iinc C (v := nI (k + 1)) (lv' := [(4, .int (nI (k + 1))), (7, .long ((ax_xc (m + 12) i j k L) (m + 12) (3 * k + i))), (6, .int (nI (3 * k + j))), (5, .int (nI (3 * k + i))), (0, .ref m), (1, .int (nI i)), (2, .int (nI j)), (3, .int (nI 0))]) (dk ddX11_changesPlaces 57 rfl) rfl (nI_add k 1) (by decide) rfl ?_
        refine x_goto C (tgt := 3) (dk ddX11_changesPlaces 58 rfl) (by decide) ?_
        refine x_sub [0, 4, 5, 6, 7] (lv' := [(4, .int (nI (k + 1))), (0, .ref m), (1, .int (nI i)), (2, .int (nI j)), (3, .int (nI 0))]) rfl ?_
        exact ih_ (k + 1) (by omega)
  refine x_iconst C (v := nI 0) (dk ddX11_changesPlaces 0 rfl) (by decide) ?_
  refine x_istore C (lv' := [(4, .int (nI 0)), (0, .ref m), (1, .int (nI i)), (2, .int (nI j)), (3, .int (nI 0))]) (dk ddX11_changesPlaces 1 rfl) (by decide) rfl ?_
  exact hloop t 0 (by omega)
def ax_gb1 (H : Nat → Int64) (d wd k : Nat) : Option Nat → Option Nat
  | none => if d ≤ k / 3 ∧ d ≤ k % 3 ∧ k % 3 < wd ∧ ¬ H k = 0 then some k else none
  | some q => if (d ≤ k / 3 ∧ d ≤ k % 3 ∧ k % 3 < wd ∧ ¬ H k = 0) ∧ ax_abs (H k) < ax_abs (H q) then some k else some q
/-- the place of the grid with the least number that is not 0, of the first so many, from d on -/
def ax_gb (H : Nat → Int64) (d wd : Nat) : Nat → Option Nat
  | 0 => none
  | n + 1 => ax_gb1 H d wd n (ax_gb H d wd n)
theorem ax_gb1_some {H : Nat → Int64} {d wd k q : Nat} {b : Option Nat} (h : ax_gb1 H d wd k b = some q) : (q = k ∧ d ≤ k / 3 ∧ d ≤ k % 3 ∧ k % 3 < wd ∧ ¬ H k = 0) ∨ b = some q := by
  cases b with
  | none =>
    by_cases hz : d ≤ k / 3 ∧ d ≤ k % 3 ∧ k % 3 < wd ∧ ¬ H k = 0
    · rw [show ax_gb1 H d wd k none = some k from if_pos hz] at h; cases h; exact Or.inl ⟨rfl, hz⟩
    · rw [show ax_gb1 H d wd k none = none from if_neg hz] at h; cases h
  | some q' =>
    by_cases hz : (d ≤ k / 3 ∧ d ≤ k % 3 ∧ k % 3 < wd ∧ ¬ H k = 0) ∧ ax_abs (H k) < ax_abs (H q')
    · rw [show ax_gb1 H d wd k (some q') = some k from if_pos hz] at h; cases h; exact Or.inl ⟨rfl, hz.1⟩
    · rw [show ax_gb1 H d wd k (some q') = some q' from if_neg hz] at h; exact Or.inr h
theorem ax_gb_some {H : Nat → Int64} {d wd : Nat} : ∀ {n q : Nat}, ax_gb H d wd n = some q → q < n ∧ d ≤ q / 3 ∧ d ≤ q % 3 ∧ q % 3 < wd ∧ ¬ H q = 0
  | 0, q, h => by cases h
  | n + 1, q, h => by
    rcases ax_gb1_some (show ax_gb1 H d wd n (ax_gb H d wd n) = some q from h) with ⟨rfl, hz⟩ | hb
    · exact ⟨by omega, hz⟩
    · have ih := ax_gb_some hb
      exact ⟨by omega, ih.2⟩
/-- what brings makes -/
def ax_br0 (h d t wd : Nat) (L : ax_L) : Bool × ax_L := match ax_gb (L h) d wd (3 * t) with
  | none => (false, L)
  | some q => (true, ax_xc h d (q % 3) t (ax_xr h d (q / 3) wd L))
set_option maxRecDepth 20000 in
/-- brings(d) -/
theorem k_X11_brings (l : Launch) (D : va_G) (T : Nat → ClassId) (o d : Nat) (G : ax_G) (I : ax_I) (L : ax_L) (m e t wd : Nat) (hM : ax_Mod G m) (hT : I m 16 = nI t) (ht : t ≤ 8) (hW : I m 17 = nI wd) (hw : wd ≤ 3) (he : e < 3) (he2 : e < 8) (hd : 1 ≤ d) : ax_Con l D T o yX11_brings cX11_brings 5 (some .boolean) d 0 0 [.ref m, .int (nI e)] G I L (fun v G' I' L' => v = some (.int (ax_b (ax_br0 (m + 12) e t wd L).1)) ∧ G = G' ∧ I = I' ∧ (ax_br0 (m + 12) e t wd L).2 = L') := by
  refine ax_enter (by decide +kernel) (Nat.le_of_ble_eq_true rfl) ?_
  intro p_ e_ s_ m_ args_ below_ meth_ c_ C _
  refine x_lvs (lv' := [(0, .ref m), (1, .int (nI e))]) rfl ?_
  have hloop : ∀ (n_ k : Nat), k + n_ = 3 * t → ax_XM p_ l e_ s_ m_ args_ below_ meth_ c_ 5 D T o d 0 0 G (fun v G' I' L' => v = some (.int (ax_b (ax_br0 (m + 12) e t wd L).1)) ∧ G = G' ∧ I = I' ∧ (ax_br0 (m + 12) e t wd L).2 = L') G I L 4 [(2, .int (ax_oi (ax_gb (L (m + 12)) e wd k))), (3, .int (nI k)), (0, .ref m), (1, .int (nI e))] [] := by
    intro n_
    induction n_ with
    | zero =>
      intro k hk_
      rw [show k = 3 * t by omega]
      refine x_iload_n C (dk ddX11_brings 4 rfl) rfl ?_
      refine x_iconst C (v := nI 3) (dk ddX11_brings 5 rfl) (by decide) ?_
      refine x_aload_n C (dk ddX11_brings 6 rfl) rfl ?_
      refine x_geti C flX11_225 rfl (hM.lt (j := 0) (by decide)) hM.2.1 (dk ddX11_brings 7 rfl) ?_
      rw [show (I m 16) = nI t from hT]
      refine x_imul_n C (dk ddX11_brings 8 rfl) ?_
      refine x_icmp_ge_n C (tgt := 95) (dk ddX11_brings 9 rfl) (by decide) (by omega) (by omega) (fun h11 => ?_) (fun h11 => ?_)
      · rcases hb : ax_gb (L (m + 12)) e wd (3 * t) with _ | q
        · refine x_lvs (lv' := [(2, .int (-1)), (3, .int (nI (3 * t))), (0, .ref m), (1, .int (nI e))]) rfl ?_
          have eb : ax_br0 (m + 12) e t wd L = (false, L) := by unfold ax_br0; rw [hb]
          refine x_iload_n C (dk ddX11_brings 57 rfl) rfl ?_
          refine x_if_lt C (tgt := 117) (dk ddX11_brings 58 rfl) (by decide) (fun _ => ?_) (fun h_ => absurd h_ (by decide))
          refine x_iload_n C (dk ddX11_brings 73 rfl) rfl ?_
          refine x_if_lt C (tgt := 125) (dk ddX11_brings 74 rfl) (by decide) (fun _ => ?_) (fun h_ => absurd h_ (by decide))
          refine x_iconst C (v := nI 0) (dk ddX11_brings 77 rfl) (by decide) ?_
          exact x_zret C rfl rfl ⟨by rw [eb]; rfl, rfl, rfl, by rw [eb]⟩ rfl rfl (dk ddX11_brings 78 rfl)
        · obtain ⟨q1_, q2_, q3_, q4_, q5_⟩ := ax_gb_some hb
          refine x_lvs (lv' := [(2, .int (nI q)), (3, .int (nI (3 * t))), (0, .ref m), (1, .int (nI e))]) rfl ?_
          have eb : ax_br0 (m + 12) e t wd L = (true, ax_xc (m + 12) e (q % 3) t (ax_xr (m + 12) e (q / 3) wd L)) := by unfold ax_br0; rw [hb]
          refine x_iload_n C (dk ddX11_brings 57 rfl) rfl ?_
          refine x_if_lt_n C (tgt := 117) (dk ddX11_brings 58 rfl) (by decide) (by omega) (fun h96 => ?_) (fun h96 => ?_)
          · exfalso
            omega
          · refine x_aload_n C (dk ddX11_brings 59 rfl) rfl ?_
            refine x_iload_n C (dk ddX11_brings 60 rfl) rfl ?_
            refine x_iload_n C (dk ddX11_brings 61 rfl) rfl ?_
            refine x_iconst C (v := nI 3) (dk ddX11_brings 62 rfl) (by decide) ?_
            refine x_idiv_n C (dk ddX11_brings 63 rfl) (by omega) (by omega) (by omega) ?_
            refine x_iconst C (v := nI 1) (dk ddX11_brings 64 rfl) (by decide) ?_
            refine x_callV C (ci := 11) (As := [.int (nI e), .int (nI (q / 3)), .int (nI 1)]) (k_X11_changesPlaces_row l D T o (d - 1) G I L m e (q / 3) t wd hM hT ht hW hw (by omega) (by omega) (by omega)) mlX11_228 rfl rfl (hM.lt (j := 0) (by decide)) hM.2.1 ⟨by show d - 1 + 1 ≤ d; omega, by show 40 * (d - 1 + 1) ≤ 40 * d; omega⟩ ⟨Nat.le_refl _, Nat.le_refl _⟩ rfl (Nat.le_of_ble_eq_true rfl) (dk ddX11_brings 65 rfl) ?_
            rintro v_ G_ I_ L_ ⟨rfl, rfl, rfl, rfl⟩
            refine x_aload_n C (dk ddX11_brings 66 rfl) rfl ?_
            refine x_iload_n C (dk ddX11_brings 67 rfl) rfl ?_
            refine x_iload_n C (dk ddX11_brings 68 rfl) rfl ?_
            refine x_iconst C (v := nI 3) (dk ddX11_brings 69 rfl) (by decide) ?_
            refine x_irem_n C (dk ddX11_brings 70 rfl) (by omega) (by omega) (by omega) ?_
            refine x_iconst C (v := nI 0) (dk ddX11_brings 71 rfl) (by decide) ?_
            refine x_callV C (ci := 11) (As := [.int (nI e), .int (nI (q % 3)), .int (nI 0)]) (k_X11_changesPlaces_col l D T o (d - 1) G I (ax_xr (m + 12) e (q / 3) wd L) m e (q % 3) t wd hM hT ht hW hw (by omega) (by omega) (by omega)) mlX11_228 rfl rfl (hM.lt (j := 0) (by decide)) hM.2.1 ⟨by show d - 1 + 1 ≤ d; omega, by show 40 * (d - 1 + 1) ≤ 40 * d; omega⟩ ⟨Nat.le_refl _, Nat.le_refl _⟩ rfl (Nat.le_of_ble_eq_true rfl) (dk ddX11_brings 72 rfl) ?_
            rintro v_ G_ I_ L_ ⟨rfl, rfl, rfl, rfl⟩
            refine x_iload_n C (dk ddX11_brings 73 rfl) rfl ?_
            refine x_if_lt_n C (tgt := 125) (dk ddX11_brings 74 rfl) (by decide) (by omega) (fun h118 => ?_) (fun h118 => ?_)
            · exfalso
              omega
            · refine x_iconst C (v := nI 1) (dk ddX11_brings 75 rfl) (by decide) ?_
              refine x_goto C (tgt := 126) (dk ddX11_brings 76 rfl) (by decide) ?_
              exact x_zret C rfl rfl ⟨by rw [eb]; rfl, rfl, rfl, by rw [eb]⟩ rfl rfl (dk ddX11_brings 78 rfl)
      · exfalso
        omega
    | succ n_ ih_ =>
      intro k hk_
      rcases hb : ax_gb (L (m + 12)) e wd k with _ | q
      · refine x_lvs (lv' := [(2, .int (-1)), (3, .int (nI k)), (0, .ref m), (1, .int (nI e))]) rfl ?_
        refine x_iload_n C (dk ddX11_brings 4 rfl) rfl ?_
        refine x_iconst C (v := nI 3) (dk ddX11_brings 5 rfl) (by decide) ?_
        refine x_aload_n C (dk ddX11_brings 6 rfl) rfl ?_
        refine x_geti C flX11_225 rfl (hM.lt (j := 0) (by decide)) hM.2.1 (dk ddX11_brings 7 rfl) ?_
        rw [show (I m 16) = nI t from hT]
        refine x_imul_n C (dk ddX11_brings 8 rfl) ?_
        refine x_icmp_ge_n C (tgt := 95) (dk ddX11_brings 9 rfl) (by decide) (by omega) (by omega) (fun h11 => ?_) (fun h11 => ?_)
        · exfalso
          omega
        · refine x_iload_n C (dk ddX11_brings 10 rfl) rfl ?_
          refine x_iconst C (v := nI 3) (dk ddX11_brings 11 rfl) (by decide) ?_
          refine x_idiv_n C (dk ddX11_brings 12 rfl) (by omega) (by omega) (by omega) ?_
          refine x_iload_n C (dk ddX11_brings 13 rfl) rfl ?_
          refine x_icmp_lt_n C (tgt := 53) (dk ddX11_brings 14 rfl) (by decide) (by omega) (by omega) (fun h18 => ?_) (fun h18 => ?_)
          · refine x_iconst C (v := nI 0) (dk ddX11_brings 35 rfl) (by decide) ?_
            refine x_istore C (lv' := [(4, .int (nI 0)), (2, .int (-1)), (3, .int (nI k)), (0, .ref m), (1, .int (nI e))]) (dk ddX11_brings 36 rfl) (by decide) rfl ?_
            refine x_iload C (dk ddX11_brings 37 rfl) rfl ?_
            refine x_if_eq_n C (tgt := 89) (dk ddX11_brings 38 rfl) (by decide) (by decide) (fun _ => ?_) (fun h_ => absurd h_ (by decide))
            refine x_iinc C (v := nI (k + 1)) (lv' := [(3, .int (nI (k + 1))), (4, .int (nI 0)), (2, .int (-1)), (0, .ref m), (1, .int (nI e))]) (dk ddX11_brings 55 rfl) rfl (nI_add k 1) (by decide) rfl ?_
            refine x_goto C (tgt := 4) (dk ddX11_brings 56 rfl) (by decide) ?_
            have e_ : ax_gb (L (m + 12)) e wd (k + 1) = none := by
              show ax_gb1 _ _ _ _ (ax_gb (L (m + 12)) e wd k) = _
              rw [hb]
              exact if_neg (fun q_ => absurd q_.1 (by omega))
            refine x_sub [2, 0, 3, 4] (lv' := [(2, .int (-1)), (3, .int (nI (k + 1))), (0, .ref m), (1, .int (nI e))]) rfl ?_
            have h_ := ih_ (k + 1) (by omega)
            rw [e_] at h_
            exact h_
          · refine x_iload_n C (dk ddX11_brings 15 rfl) rfl ?_
            refine x_iconst C (v := nI 3) (dk ddX11_brings 16 rfl) (by decide) ?_
            refine x_irem_n C (dk ddX11_brings 17 rfl) (by omega) (by omega) (by omega) ?_
            refine x_iload_n C (dk ddX11_brings 18 rfl) rfl ?_
            refine x_icmp_lt_n C (tgt := 53) (dk ddX11_brings 19 rfl) (by decide) (by omega) (by omega) (fun h25 => ?_) (fun h25 => ?_)
            · refine x_iconst C (v := nI 0) (dk ddX11_brings 35 rfl) (by decide) ?_
              refine x_istore C (lv' := [(4, .int (nI 0)), (2, .int (-1)), (3, .int (nI k)), (0, .ref m), (1, .int (nI e))]) (dk ddX11_brings 36 rfl) (by decide) rfl ?_
              refine x_iload C (dk ddX11_brings 37 rfl) rfl ?_
              refine x_if_eq_n C (tgt := 89) (dk ddX11_brings 38 rfl) (by decide) (by decide) (fun _ => ?_) (fun h_ => absurd h_ (by decide))
              refine x_iinc C (v := nI (k + 1)) (lv' := [(3, .int (nI (k + 1))), (4, .int (nI 0)), (2, .int (-1)), (0, .ref m), (1, .int (nI e))]) (dk ddX11_brings 55 rfl) rfl (nI_add k 1) (by decide) rfl ?_
              refine x_goto C (tgt := 4) (dk ddX11_brings 56 rfl) (by decide) ?_
              have e_ : ax_gb (L (m + 12)) e wd (k + 1) = none := by
                show ax_gb1 _ _ _ _ (ax_gb (L (m + 12)) e wd k) = _
                rw [hb]
                exact if_neg (fun q_ => absurd q_.2.1 (by omega))
              refine x_sub [2, 0, 3, 4] (lv' := [(2, .int (-1)), (3, .int (nI (k + 1))), (0, .ref m), (1, .int (nI e))]) rfl ?_
              have h_ := ih_ (k + 1) (by omega)
              rw [e_] at h_
              exact h_
            · refine x_iload_n C (dk ddX11_brings 20 rfl) rfl ?_
              refine x_iconst C (v := nI 3) (dk ddX11_brings 21 rfl) (by decide) ?_
              refine x_irem_n C (dk ddX11_brings 22 rfl) (by omega) (by omega) (by omega) ?_
              refine x_aload_n C (dk ddX11_brings 23 rfl) rfl ?_
              refine x_geti C flX11_222 rfl (hM.lt (j := 0) (by decide)) hM.2.1 (dk ddX11_brings 24 rfl) ?_
              rw [show (I m 17) = nI wd from hW]
              refine x_icmp_ge_n C (tgt := 53) (dk ddX11_brings 25 rfl) (by decide) (by omega) (by omega) (fun h35 => ?_) (fun h35 => ?_)
              · refine x_iconst C (v := nI 0) (dk ddX11_brings 35 rfl) (by decide) ?_
                refine x_istore C (lv' := [(4, .int (nI 0)), (2, .int (-1)), (3, .int (nI k)), (0, .ref m), (1, .int (nI e))]) (dk ddX11_brings 36 rfl) (by decide) rfl ?_
                refine x_iload C (dk ddX11_brings 37 rfl) rfl ?_
                refine x_if_eq_n C (tgt := 89) (dk ddX11_brings 38 rfl) (by decide) (by decide) (fun _ => ?_) (fun h_ => absurd h_ (by decide))
                refine x_iinc C (v := nI (k + 1)) (lv' := [(3, .int (nI (k + 1))), (4, .int (nI 0)), (2, .int (-1)), (0, .ref m), (1, .int (nI e))]) (dk ddX11_brings 55 rfl) rfl (nI_add k 1) (by decide) rfl ?_
                refine x_goto C (tgt := 4) (dk ddX11_brings 56 rfl) (by decide) ?_
                have e_ : ax_gb (L (m + 12)) e wd (k + 1) = none := by
                  show ax_gb1 _ _ _ _ (ax_gb (L (m + 12)) e wd k) = _
                  rw [hb]
                  exact if_neg (fun q_ => absurd q_.2.2.1 (by omega))
                refine x_sub [2, 0, 3, 4] (lv' := [(2, .int (-1)), (3, .int (nI (k + 1))), (0, .ref m), (1, .int (nI e))]) rfl ?_
                have h_ := ih_ (k + 1) (by omega)
                rw [e_] at h_
                exact h_
              · refine x_aload_n C (dk ddX11_brings 26 rfl) rfl ?_
                refine x_getr C flX11_44 rfl (hM.lt (j := 0) (by decide)) hM.2.1 (show ax_R G m 14 = some (m + 12) from (hM.2.2 11 _ rfl).1) (dk ddX11_brings 27 rfl) ?_
                refine x_iload_n C (dk ddX11_brings 28 rfl) rfl ?_
                refine x_lald_n C (hM.lt (j := 12) (by decide)) (hM.2.2 11 _ rfl).2.1 (show ax_N G (m + 12) = 24 from (hM.2.2 11 _ rfl).2.2) (by omega) (by decide) (dk ddX11_brings 29 rfl) ?_
                refine x_lconst C (v := 0) (dk ddX11_brings 30 rfl) (by decide) ?_
                refine x_lc_eq C (tgt := 53) (dk ddX11_brings 31 rfl) (dk ddX11_brings 32 rfl) (by decide) (fun h45 => ?_) (fun h45 => ?_)
                · refine x_iconst C (v := nI 0) (dk ddX11_brings 35 rfl) (by decide) ?_
                  refine x_istore C (lv' := [(4, .int (nI 0)), (2, .int (-1)), (3, .int (nI k)), (0, .ref m), (1, .int (nI e))]) (dk ddX11_brings 36 rfl) (by decide) rfl ?_
                  refine x_iload C (dk ddX11_brings 37 rfl) rfl ?_
                  refine x_if_eq_n C (tgt := 89) (dk ddX11_brings 38 rfl) (by decide) (by decide) (fun _ => ?_) (fun h_ => absurd h_ (by decide))
                  refine x_iinc C (v := nI (k + 1)) (lv' := [(3, .int (nI (k + 1))), (4, .int (nI 0)), (2, .int (-1)), (0, .ref m), (1, .int (nI e))]) (dk ddX11_brings 55 rfl) rfl (nI_add k 1) (by decide) rfl ?_
                  refine x_goto C (tgt := 4) (dk ddX11_brings 56 rfl) (by decide) ?_
                  have e_ : ax_gb (L (m + 12)) e wd (k + 1) = none := by
                    show ax_gb1 _ _ _ _ (ax_gb (L (m + 12)) e wd k) = _
                    rw [hb]
                    exact if_neg (fun q_ => q_.2.2.2 h45)
                  refine x_sub [2, 0, 3, 4] (lv' := [(2, .int (-1)), (3, .int (nI (k + 1))), (0, .ref m), (1, .int (nI e))]) rfl ?_
                  have h_ := ih_ (k + 1) (by omega)
                  rw [e_] at h_
                  exact h_
                · refine x_iconst C (v := nI 1) (dk ddX11_brings 33 rfl) (by decide) ?_
                  refine x_goto C (tgt := 54) (dk ddX11_brings 34 rfl) (by decide) ?_
                  refine x_istore C (lv' := [(4, .int (nI 1)), (2, .int (-1)), (3, .int (nI k)), (0, .ref m), (1, .int (nI e))]) (dk ddX11_brings 36 rfl) (by decide) rfl ?_
                  refine x_iload C (dk ddX11_brings 37 rfl) rfl ?_
                  refine x_if_eq_n C (tgt := 89) (dk ddX11_brings 38 rfl) (by decide) (by decide) (fun h_ => absurd h_ (by decide)) (fun _ => ?_)
                  refine x_iload_n C (dk ddX11_brings 39 rfl) rfl ?_
                  refine x_if_lt C (tgt := 87) (dk ddX11_brings 40 rfl) (by decide) (fun _ => ?_) (fun h_ => absurd h_ (by decide))
                  refine x_iload_n C (dk ddX11_brings 53 rfl) rfl ?_
                  refine x_istore_n C (lv' := [(2, .int (nI k)), (4, .int (nI 1)), (3, .int (nI k)), (0, .ref m), (1, .int (nI e))]) (dk ddX11_brings 54 rfl) (by decide) rfl ?_
                  refine x_iinc C (v := nI (k + 1)) (lv' := [(3, .int (nI (k + 1))), (2, .int (nI k)), (4, .int (nI 1)), (0, .ref m), (1, .int (nI e))]) (dk ddX11_brings 55 rfl) rfl (nI_add k 1) (by decide) rfl ?_
                  refine x_goto C (tgt := 4) (dk ddX11_brings 56 rfl) (by decide) ?_
                  have e_ : ax_gb (L (m + 12)) e wd (k + 1) = some k := by
                    show ax_gb1 _ _ _ _ (ax_gb (L (m + 12)) e wd k) = _
                    rw [hb]
                    exact if_pos ⟨by omega, by omega, by omega, h45⟩
                  refine x_sub [1, 0, 3, 4] (lv' := [(2, .int (nI k)), (3, .int (nI (k + 1))), (0, .ref m), (1, .int (nI e))]) rfl ?_
                  have h_ := ih_ (k + 1) (by omega)
                  rw [e_] at h_
                  exact h_
      · obtain ⟨q1_, q2_, q3_, q4_, q5_⟩ := ax_gb_some hb
        refine x_lvs (lv' := [(2, .int (nI q)), (3, .int (nI k)), (0, .ref m), (1, .int (nI e))]) rfl ?_
        refine x_iload_n C (dk ddX11_brings 4 rfl) rfl ?_
        refine x_iconst C (v := nI 3) (dk ddX11_brings 5 rfl) (by decide) ?_
        refine x_aload_n C (dk ddX11_brings 6 rfl) rfl ?_
        refine x_geti C flX11_225 rfl (hM.lt (j := 0) (by decide)) hM.2.1 (dk ddX11_brings 7 rfl) ?_
        rw [show (I m 16) = nI t from hT]
        refine x_imul_n C (dk ddX11_brings 8 rfl) ?_
        refine x_icmp_ge_n C (tgt := 95) (dk ddX11_brings 9 rfl) (by decide) (by omega) (by omega) (fun h11 => ?_) (fun h11 => ?_)
        · exfalso
          omega
        · refine x_iload_n C (dk ddX11_brings 10 rfl) rfl ?_
          refine x_iconst C (v := nI 3) (dk ddX11_brings 11 rfl) (by decide) ?_
          refine x_idiv_n C (dk ddX11_brings 12 rfl) (by omega) (by omega) (by omega) ?_
          refine x_iload_n C (dk ddX11_brings 13 rfl) rfl ?_
          refine x_icmp_lt_n C (tgt := 53) (dk ddX11_brings 14 rfl) (by decide) (by omega) (by omega) (fun h18 => ?_) (fun h18 => ?_)
          · refine x_iconst C (v := nI 0) (dk ddX11_brings 35 rfl) (by decide) ?_
            refine x_istore C (lv' := [(4, .int (nI 0)), (2, .int (nI q)), (3, .int (nI k)), (0, .ref m), (1, .int (nI e))]) (dk ddX11_brings 36 rfl) (by decide) rfl ?_
            refine x_iload C (dk ddX11_brings 37 rfl) rfl ?_
            refine x_if_eq_n C (tgt := 89) (dk ddX11_brings 38 rfl) (by decide) (by decide) (fun _ => ?_) (fun h_ => absurd h_ (by decide))
            refine x_iinc C (v := nI (k + 1)) (lv' := [(3, .int (nI (k + 1))), (4, .int (nI 0)), (2, .int (nI q)), (0, .ref m), (1, .int (nI e))]) (dk ddX11_brings 55 rfl) rfl (nI_add k 1) (by decide) rfl ?_
            refine x_goto C (tgt := 4) (dk ddX11_brings 56 rfl) (by decide) ?_
            have e_ : ax_gb (L (m + 12)) e wd (k + 1) = some q := by
              show ax_gb1 _ _ _ _ (ax_gb (L (m + 12)) e wd k) = _
              rw [hb]
              exact if_neg (fun q_ => absurd q_.1.1 (by omega))
            refine x_sub [2, 0, 3, 4] (lv' := [(2, .int (nI q)), (3, .int (nI (k + 1))), (0, .ref m), (1, .int (nI e))]) rfl ?_
            have h_ := ih_ (k + 1) (by omega)
            rw [e_] at h_
            exact h_
          · refine x_iload_n C (dk ddX11_brings 15 rfl) rfl ?_
            refine x_iconst C (v := nI 3) (dk ddX11_brings 16 rfl) (by decide) ?_
            refine x_irem_n C (dk ddX11_brings 17 rfl) (by omega) (by omega) (by omega) ?_
            refine x_iload_n C (dk ddX11_brings 18 rfl) rfl ?_
            refine x_icmp_lt_n C (tgt := 53) (dk ddX11_brings 19 rfl) (by decide) (by omega) (by omega) (fun h25 => ?_) (fun h25 => ?_)
            · refine x_iconst C (v := nI 0) (dk ddX11_brings 35 rfl) (by decide) ?_
              refine x_istore C (lv' := [(4, .int (nI 0)), (2, .int (nI q)), (3, .int (nI k)), (0, .ref m), (1, .int (nI e))]) (dk ddX11_brings 36 rfl) (by decide) rfl ?_
              refine x_iload C (dk ddX11_brings 37 rfl) rfl ?_
              refine x_if_eq_n C (tgt := 89) (dk ddX11_brings 38 rfl) (by decide) (by decide) (fun _ => ?_) (fun h_ => absurd h_ (by decide))
              refine x_iinc C (v := nI (k + 1)) (lv' := [(3, .int (nI (k + 1))), (4, .int (nI 0)), (2, .int (nI q)), (0, .ref m), (1, .int (nI e))]) (dk ddX11_brings 55 rfl) rfl (nI_add k 1) (by decide) rfl ?_
              refine x_goto C (tgt := 4) (dk ddX11_brings 56 rfl) (by decide) ?_
              have e_ : ax_gb (L (m + 12)) e wd (k + 1) = some q := by
                show ax_gb1 _ _ _ _ (ax_gb (L (m + 12)) e wd k) = _
                rw [hb]
                exact if_neg (fun q_ => absurd q_.1.2.1 (by omega))
              refine x_sub [2, 0, 3, 4] (lv' := [(2, .int (nI q)), (3, .int (nI (k + 1))), (0, .ref m), (1, .int (nI e))]) rfl ?_
              have h_ := ih_ (k + 1) (by omega)
              rw [e_] at h_
              exact h_
            · refine x_iload_n C (dk ddX11_brings 20 rfl) rfl ?_
              refine x_iconst C (v := nI 3) (dk ddX11_brings 21 rfl) (by decide) ?_
              refine x_irem_n C (dk ddX11_brings 22 rfl) (by omega) (by omega) (by omega) ?_
              refine x_aload_n C (dk ddX11_brings 23 rfl) rfl ?_
              refine x_geti C flX11_222 rfl (hM.lt (j := 0) (by decide)) hM.2.1 (dk ddX11_brings 24 rfl) ?_
              rw [show (I m 17) = nI wd from hW]
              refine x_icmp_ge_n C (tgt := 53) (dk ddX11_brings 25 rfl) (by decide) (by omega) (by omega) (fun h35 => ?_) (fun h35 => ?_)
              · refine x_iconst C (v := nI 0) (dk ddX11_brings 35 rfl) (by decide) ?_
                refine x_istore C (lv' := [(4, .int (nI 0)), (2, .int (nI q)), (3, .int (nI k)), (0, .ref m), (1, .int (nI e))]) (dk ddX11_brings 36 rfl) (by decide) rfl ?_
                refine x_iload C (dk ddX11_brings 37 rfl) rfl ?_
                refine x_if_eq_n C (tgt := 89) (dk ddX11_brings 38 rfl) (by decide) (by decide) (fun _ => ?_) (fun h_ => absurd h_ (by decide))
                refine x_iinc C (v := nI (k + 1)) (lv' := [(3, .int (nI (k + 1))), (4, .int (nI 0)), (2, .int (nI q)), (0, .ref m), (1, .int (nI e))]) (dk ddX11_brings 55 rfl) rfl (nI_add k 1) (by decide) rfl ?_
                refine x_goto C (tgt := 4) (dk ddX11_brings 56 rfl) (by decide) ?_
                have e_ : ax_gb (L (m + 12)) e wd (k + 1) = some q := by
                  show ax_gb1 _ _ _ _ (ax_gb (L (m + 12)) e wd k) = _
                  rw [hb]
                  exact if_neg (fun q_ => absurd q_.1.2.2.1 (by omega))
                refine x_sub [2, 0, 3, 4] (lv' := [(2, .int (nI q)), (3, .int (nI (k + 1))), (0, .ref m), (1, .int (nI e))]) rfl ?_
                have h_ := ih_ (k + 1) (by omega)
                rw [e_] at h_
                exact h_
              · refine x_aload_n C (dk ddX11_brings 26 rfl) rfl ?_
                refine x_getr C flX11_44 rfl (hM.lt (j := 0) (by decide)) hM.2.1 (show ax_R G m 14 = some (m + 12) from (hM.2.2 11 _ rfl).1) (dk ddX11_brings 27 rfl) ?_
                refine x_iload_n C (dk ddX11_brings 28 rfl) rfl ?_
                refine x_lald_n C (hM.lt (j := 12) (by decide)) (hM.2.2 11 _ rfl).2.1 (show ax_N G (m + 12) = 24 from (hM.2.2 11 _ rfl).2.2) (by omega) (by decide) (dk ddX11_brings 29 rfl) ?_
                refine x_lconst C (v := 0) (dk ddX11_brings 30 rfl) (by decide) ?_
                refine x_lc_eq C (tgt := 53) (dk ddX11_brings 31 rfl) (dk ddX11_brings 32 rfl) (by decide) (fun h45 => ?_) (fun h45 => ?_)
                · refine x_iconst C (v := nI 0) (dk ddX11_brings 35 rfl) (by decide) ?_
                  refine x_istore C (lv' := [(4, .int (nI 0)), (2, .int (nI q)), (3, .int (nI k)), (0, .ref m), (1, .int (nI e))]) (dk ddX11_brings 36 rfl) (by decide) rfl ?_
                  refine x_iload C (dk ddX11_brings 37 rfl) rfl ?_
                  refine x_if_eq_n C (tgt := 89) (dk ddX11_brings 38 rfl) (by decide) (by decide) (fun _ => ?_) (fun h_ => absurd h_ (by decide))
                  refine x_iinc C (v := nI (k + 1)) (lv' := [(3, .int (nI (k + 1))), (4, .int (nI 0)), (2, .int (nI q)), (0, .ref m), (1, .int (nI e))]) (dk ddX11_brings 55 rfl) rfl (nI_add k 1) (by decide) rfl ?_
                  refine x_goto C (tgt := 4) (dk ddX11_brings 56 rfl) (by decide) ?_
                  have e_ : ax_gb (L (m + 12)) e wd (k + 1) = some q := by
                    show ax_gb1 _ _ _ _ (ax_gb (L (m + 12)) e wd k) = _
                    rw [hb]
                    exact if_neg (fun q_ => q_.1.2.2.2 h45)
                  refine x_sub [2, 0, 3, 4] (lv' := [(2, .int (nI q)), (3, .int (nI (k + 1))), (0, .ref m), (1, .int (nI e))]) rfl ?_
                  have h_ := ih_ (k + 1) (by omega)
                  rw [e_] at h_
                  exact h_
                · refine x_iconst C (v := nI 1) (dk ddX11_brings 33 rfl) (by decide) ?_
                  refine x_goto C (tgt := 54) (dk ddX11_brings 34 rfl) (by decide) ?_
                  refine x_istore C (lv' := [(4, .int (nI 1)), (2, .int (nI q)), (3, .int (nI k)), (0, .ref m), (1, .int (nI e))]) (dk ddX11_brings 36 rfl) (by decide) rfl ?_
                  refine x_iload C (dk ddX11_brings 37 rfl) rfl ?_
                  refine x_if_eq_n C (tgt := 89) (dk ddX11_brings 38 rfl) (by decide) (by decide) (fun h_ => absurd h_ (by decide)) (fun _ => ?_)
                  refine x_iload_n C (dk ddX11_brings 39 rfl) rfl ?_
                  refine x_if_lt_n C (tgt := 87) (dk ddX11_brings 40 rfl) (by decide) (by omega) (fun h62 => ?_) (fun h62 => ?_)
                  · exfalso
                    omega
                  · refine x_aload_n C (dk ddX11_brings 41 rfl) rfl ?_
                    refine x_getr C flX11_44 rfl (hM.lt (j := 0) (by decide)) hM.2.1 (show ax_R G m 14 = some (m + 12) from (hM.2.2 11 _ rfl).1) (dk ddX11_brings 42 rfl) ?_
                    refine x_iload_n C (dk ddX11_brings 43 rfl) rfl ?_
                    refine x_lald_n C (hM.lt (j := 12) (by decide)) (hM.2.2 11 _ rfl).2.1 (show ax_N G (m + 12) = 24 from (hM.2.2 11 _ rfl).2.2) (by omega) (by decide) (dk ddX11_brings 44 rfl) ?_
                    refine x_callS C (As := [.long (L (m + 12) k)]) (k_X11_sizeOf l D T o (d - 1) G I L (L (m + 12) k)) mlX11_136 ⟨by show d - 1 + 1 ≤ d; omega, by show 40 * (d - 1 + 1) ≤ 40 * d; omega⟩ ⟨Nat.le_refl _, Nat.le_refl _⟩ rfl (Nat.le_of_ble_eq_true rfl) (dk ddX11_brings 45 rfl) ?_
                    rintro v_ G_ I_ L_ ⟨rfl, rfl, rfl, rfl⟩
                    refine x_aload_n C (dk ddX11_brings 46 rfl) rfl ?_
                    refine x_getr C flX11_44 rfl (hM.lt (j := 0) (by decide)) hM.2.1 (show ax_R G m 14 = some (m + 12) from (hM.2.2 11 _ rfl).1) (dk ddX11_brings 47 rfl) ?_
                    refine x_iload_n C (dk ddX11_brings 48 rfl) rfl ?_
                    refine x_lald_n C (hM.lt (j := 12) (by decide)) (hM.2.2 11 _ rfl).2.1 (show ax_N G (m + 12) = 24 from (hM.2.2 11 _ rfl).2.2) (by omega) (by decide) (dk ddX11_brings 49 rfl) ?_
                    refine x_callS C (As := [.long (L (m + 12) q)]) (k_X11_sizeOf l D T o (d - 1) G I L (L (m + 12) q)) mlX11_136 ⟨by show d - 1 + 1 ≤ d; omega, by show 40 * (d - 1 + 1) ≤ 40 * d; omega⟩ ⟨Nat.le_refl _, Nat.le_refl _⟩ rfl (Nat.le_of_ble_eq_true rfl) (dk ddX11_brings 50 rfl) ?_
                    rintro v_ G_ I_ L_ ⟨rfl, rfl, rfl, rfl⟩
                    refine x_lc_ge C (tgt := 89) (dk ddX11_brings 51 rfl) (dk ddX11_brings 52 rfl) (by decide) (fun h83 => ?_) (fun h83 => ?_)
                    · have h83c := Int64.not_lt.mpr h83
                      refine x_iinc C (v := nI (k + 1)) (lv' := [(3, .int (nI (k + 1))), (4, .int (nI 1)), (2, .int (nI q)), (0, .ref m), (1, .int (nI e))]) (dk ddX11_brings 55 rfl) rfl (nI_add k 1) (by decide) rfl ?_
                      refine x_goto C (tgt := 4) (dk ddX11_brings 56 rfl) (by decide) ?_
                      have e_ : ax_gb (L (m + 12)) e wd (k + 1) = some q := by
                        show ax_gb1 _ _ _ _ (ax_gb (L (m + 12)) e wd k) = _
                        rw [hb]
                        exact if_neg (fun q_ => h83c q_.2)
                      refine x_sub [2, 0, 3, 4] (lv' := [(2, .int (nI q)), (3, .int (nI (k + 1))), (0, .ref m), (1, .int (nI e))]) rfl ?_
                      have h_ := ih_ (k + 1) (by omega)
                      rw [e_] at h_
                      exact h_
                    · have h83c := Int64.not_le.mp h83
                      refine x_iload_n C (dk ddX11_brings 53 rfl) rfl ?_
                      refine x_istore_n C (lv' := [(2, .int (nI k)), (4, .int (nI 1)), (3, .int (nI k)), (0, .ref m), (1, .int (nI e))]) (dk ddX11_brings 54 rfl) (by decide) rfl ?_
                      refine x_iinc C (v := nI (k + 1)) (lv' := [(3, .int (nI (k + 1))), (2, .int (nI k)), (4, .int (nI 1)), (0, .ref m), (1, .int (nI e))]) (dk ddX11_brings 55 rfl) rfl (nI_add k 1) (by decide) rfl ?_
                      refine x_goto C (tgt := 4) (dk ddX11_brings 56 rfl) (by decide) ?_
                      have e_ : ax_gb (L (m + 12)) e wd (k + 1) = some k := by
                        show ax_gb1 _ _ _ _ (ax_gb (L (m + 12)) e wd k) = _
                        rw [hb]
                        exact if_pos ⟨⟨by omega, by omega, by omega, h45⟩, h83c⟩
                      refine x_sub [1, 0, 3, 4] (lv' := [(2, .int (nI k)), (3, .int (nI (k + 1))), (0, .ref m), (1, .int (nI e))]) rfl ?_
                      have h_ := ih_ (k + 1) (by omega)
                      rw [e_] at h_
                      exact h_
  refine x_iconst C (v := (-1)) (dk ddX11_brings 0 rfl) (by decide) ?_
  refine x_istore_n C (lv' := [(2, .int (-1)), (0, .ref m), (1, .int (nI e))]) (dk ddX11_brings 1 rfl) (by decide) rfl ?_
  refine x_iconst C (v := nI 0) (dk ddX11_brings 2 rfl) (by decide) ?_
  refine x_istore_n C (lv' := [(3, .int (nI 0)), (2, .int (-1)), (0, .ref m), (1, .int (nI e))]) (dk ddX11_brings 3 rfl) (by decide) rfl ?_
  refine x_sub [1, 0, 2, 3] (lv' := [(2, .int (-1)), (3, .int (nI 0)), (0, .ref m), (1, .int (nI e))]) rfl ?_
  exact hloop (3 * t) 0 (by omega)
