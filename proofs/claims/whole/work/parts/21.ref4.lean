/-! ===== the reference: sets, lay, add, keep, feed, ofGroups ===== -/
def ax_0s (a : Nat) : Nat → ax_L → ax_L
  | 0, L => L
  | n + 1, L => ax_u (ax_0s a n L) a n 0
/-- a row of at most three numbers -/
def ax_st (t many : Nat) (a b c : Int64) (L : ax_L) : ax_L := ax_u (ax_u (ax_u (ax_0s t 6 L) t 0 (if 0 < many then a else 0)) t 1 (if 1 < many then b else 0)) t 2 (if 2 < many then c else 0)
set_option maxRecDepth 20000 in
/-- sets(to, a, b, c, many) -/
theorem k_X11_sets (l : Launch) (D : va_G) (T : Nat → ClassId) (o d : Nat) (G : ax_G) (I : ax_I) (L : ax_L) (m t n : Nat) (a b e : Int64) (ht : ax_La G t 6) (hn : n ≤ 3) : ax_Con l D T o yX11_sets cX11_sets 10 none d 0 0 [.ref m, .ref t, .long a, .long b, .long e, .int (nI n)] G I L (fun v G' I' L' => v = none ∧ G = G' ∧ I = I' ∧ ax_st t n a b e L = L') := by
  refine ax_enter (by decide +kernel) (Nat.le_of_ble_eq_true rfl) ?_
  intro p_ e_ s_ m_ args_ below_ meth_ c_ C _
  refine x_lvs (lv' := [(0, .ref m), (1, .ref t), (2, .long a), (4, .long b), (6, .long e), (8, .int (nI n))]) rfl ?_
  have hloop : ∀ (n_ k : Nat), k + n_ = 6 → ax_XM p_ l e_ s_ m_ args_ below_ meth_ c_ 10 D T o d 0 0 G (fun v G' I' L' => v = none ∧ G = G' ∧ I = I' ∧ ax_st t n a b e L = L') G I (ax_0s t k L) 3 [(9, .int (nI k)), (0, .ref m), (1, .ref t), (2, .long a), (4, .long b), (6, .long e), (8, .int (nI n))] [] := by
    intro n_
    induction n_ with
    | zero =>
      intro k hk_
      rw [show k = 6 by omega]
      refine x_iload C (dk ddX11_sets 2 rfl) rfl ?_
      refine x_bipush C (v := nI 6) (dk ddX11_sets 3 rfl) (by decide) ?_
      refine x_icmp_ge_n C (tgt := 21) (dk ddX11_sets 4 rfl) (by decide) (by decide) (by decide) (fun _ => ?_) (fun h_ => absurd h_ (by decide))
      refine x_aload_n C (dk ddX11_sets 11 rfl) rfl ?_
      refine x_iconst C (v := nI 0) (dk ddX11_sets 12 rfl) (by decide) ?_
      refine x_iload C (dk ddX11_sets 13 rfl) rfl ?_
      refine x_if_le_n C (tgt := 32) (dk ddX11_sets 14 rfl) (by decide) (by omega) (fun h25 => ?_) (fun h25 => ?_)
      · refine x_lconst C (v := 0) (dk ddX11_sets 17 rfl) (by decide) ?_
        refine x_last_n C ht.1 ht.2.1 ht.2.2 (by decide) (by decide) (dk ddX11_sets 18 rfl) ?_
        refine x_aload_n C (dk ddX11_sets 19 rfl) rfl ?_
        refine x_iconst C (v := nI 1) (dk ddX11_sets 20 rfl) (by decide) ?_
        refine x_iload C (dk ddX11_sets 21 rfl) rfl ?_
        refine x_iconst C (v := nI 1) (dk ddX11_sets 22 rfl) (by decide) ?_
        refine x_icmp_le_n C (tgt := 47) (dk ddX11_sets 23 rfl) (by decide) (by omega) (by decide) (fun h39 => ?_) (fun h39 => ?_)
        · refine x_lconst C (v := 0) (dk ddX11_sets 26 rfl) (by decide) ?_
          refine x_last_n C ht.1 ht.2.1 ht.2.2 (by decide) (by decide) (dk ddX11_sets 27 rfl) ?_
          refine x_aload_n C (dk ddX11_sets 28 rfl) rfl ?_
          refine x_iconst C (v := nI 2) (dk ddX11_sets 29 rfl) (by decide) ?_
          refine x_iload C (dk ddX11_sets 30 rfl) rfl ?_
          refine x_iconst C (v := nI 2) (dk ddX11_sets 31 rfl) (by decide) ?_
          refine x_icmp_le_n C (tgt := 62) (dk ddX11_sets 32 rfl) (by decide) (by omega) (by decide) (fun h54 => ?_) (fun h54 => ?_)
          · refine x_lconst C (v := 0) (dk ddX11_sets 35 rfl) (by decide) ?_
            refine x_last_n C ht.1 ht.2.1 ht.2.2 (by decide) (by decide) (dk ddX11_sets 36 rfl) ?_
            exact x_vret C rfl ⟨rfl, rfl, rfl, by unfold ax_st; rw [if_neg (by omega : ¬ 0 < n), if_neg (by omega : ¬ 1 < n), if_neg (by omega : ¬ 2 < n)]⟩ rfl rfl (dk ddX11_sets 37 rfl)
          · refine x_lload C (dk ddX11_sets 33 rfl) rfl ?_
            refine x_goto C (tgt := 63) (dk ddX11_sets 34 rfl) (by decide) ?_
            refine x_last_n C ht.1 ht.2.1 ht.2.2 (by decide) (by decide) (dk ddX11_sets 36 rfl) ?_
            exact x_vret C rfl ⟨rfl, rfl, rfl, by unfold ax_st; rw [if_neg (by omega : ¬ 0 < n), if_neg (by omega : ¬ 1 < n), if_pos (by omega : 2 < n)]⟩ rfl rfl (dk ddX11_sets 37 rfl)
        · refine x_lload C (dk ddX11_sets 24 rfl) rfl ?_
          refine x_goto C (tgt := 48) (dk ddX11_sets 25 rfl) (by decide) ?_
          refine x_last_n C ht.1 ht.2.1 ht.2.2 (by decide) (by decide) (dk ddX11_sets 27 rfl) ?_
          refine x_aload_n C (dk ddX11_sets 28 rfl) rfl ?_
          refine x_iconst C (v := nI 2) (dk ddX11_sets 29 rfl) (by decide) ?_
          refine x_iload C (dk ddX11_sets 30 rfl) rfl ?_
          refine x_iconst C (v := nI 2) (dk ddX11_sets 31 rfl) (by decide) ?_
          refine x_icmp_le_n C (tgt := 62) (dk ddX11_sets 32 rfl) (by decide) (by omega) (by decide) (fun h54 => ?_) (fun h54 => ?_)
          · refine x_lconst C (v := 0) (dk ddX11_sets 35 rfl) (by decide) ?_
            refine x_last_n C ht.1 ht.2.1 ht.2.2 (by decide) (by decide) (dk ddX11_sets 36 rfl) ?_
            exact x_vret C rfl ⟨rfl, rfl, rfl, by unfold ax_st; rw [if_neg (by omega : ¬ 0 < n), if_pos (by omega : 1 < n), if_neg (by omega : ¬ 2 < n)]⟩ rfl rfl (dk ddX11_sets 37 rfl)
          · refine x_lload C (dk ddX11_sets 33 rfl) rfl ?_
            refine x_goto C (tgt := 63) (dk ddX11_sets 34 rfl) (by decide) ?_
            refine x_last_n C ht.1 ht.2.1 ht.2.2 (by decide) (by decide) (dk ddX11_sets 36 rfl) ?_
            exact x_vret C rfl ⟨rfl, rfl, rfl, by unfold ax_st; rw [if_neg (by omega : ¬ 0 < n), if_pos (by omega : 1 < n), if_pos (by omega : 2 < n)]⟩ rfl rfl (dk ddX11_sets 37 rfl)
      · refine x_lload_n C (dk ddX11_sets 15 rfl) rfl ?_
        refine x_goto C (tgt := 33) (dk ddX11_sets 16 rfl) (by decide) ?_
        refine x_last_n C ht.1 ht.2.1 ht.2.2 (by decide) (by decide) (dk ddX11_sets 18 rfl) ?_
        refine x_aload_n C (dk ddX11_sets 19 rfl) rfl ?_
        refine x_iconst C (v := nI 1) (dk ddX11_sets 20 rfl) (by decide) ?_
        refine x_iload C (dk ddX11_sets 21 rfl) rfl ?_
        refine x_iconst C (v := nI 1) (dk ddX11_sets 22 rfl) (by decide) ?_
        refine x_icmp_le_n C (tgt := 47) (dk ddX11_sets 23 rfl) (by decide) (by omega) (by decide) (fun h39 => ?_) (fun h39 => ?_)
        · refine x_lconst C (v := 0) (dk ddX11_sets 26 rfl) (by decide) ?_
          refine x_last_n C ht.1 ht.2.1 ht.2.2 (by decide) (by decide) (dk ddX11_sets 27 rfl) ?_
          refine x_aload_n C (dk ddX11_sets 28 rfl) rfl ?_
          refine x_iconst C (v := nI 2) (dk ddX11_sets 29 rfl) (by decide) ?_
          refine x_iload C (dk ddX11_sets 30 rfl) rfl ?_
          refine x_iconst C (v := nI 2) (dk ddX11_sets 31 rfl) (by decide) ?_
          refine x_icmp_le_n C (tgt := 62) (dk ddX11_sets 32 rfl) (by decide) (by omega) (by decide) (fun h54 => ?_) (fun h54 => ?_)
          · refine x_lconst C (v := 0) (dk ddX11_sets 35 rfl) (by decide) ?_
            refine x_last_n C ht.1 ht.2.1 ht.2.2 (by decide) (by decide) (dk ddX11_sets 36 rfl) ?_
            exact x_vret C rfl ⟨rfl, rfl, rfl, by unfold ax_st; rw [if_pos (by omega : 0 < n), if_neg (by omega : ¬ 1 < n), if_neg (by omega : ¬ 2 < n)]⟩ rfl rfl (dk ddX11_sets 37 rfl)
          · refine x_lload C (dk ddX11_sets 33 rfl) rfl ?_
            refine x_goto C (tgt := 63) (dk ddX11_sets 34 rfl) (by decide) ?_
            refine x_last_n C ht.1 ht.2.1 ht.2.2 (by decide) (by decide) (dk ddX11_sets 36 rfl) ?_
            exact x_vret C rfl ⟨rfl, rfl, rfl, by unfold ax_st; rw [if_pos (by omega : 0 < n), if_neg (by omega : ¬ 1 < n), if_pos (by omega : 2 < n)]⟩ rfl rfl (dk ddX11_sets 37 rfl)
        · refine x_lload C (dk ddX11_sets 24 rfl) rfl ?_
          refine x_goto C (tgt := 48) (dk ddX11_sets 25 rfl) (by decide) ?_
          refine x_last_n C ht.1 ht.2.1 ht.2.2 (by decide) (by decide) (dk ddX11_sets 27 rfl) ?_
          refine x_aload_n C (dk ddX11_sets 28 rfl) rfl ?_
          refine x_iconst C (v := nI 2) (dk ddX11_sets 29 rfl) (by decide) ?_
          refine x_iload C (dk ddX11_sets 30 rfl) rfl ?_
          refine x_iconst C (v := nI 2) (dk ddX11_sets 31 rfl) (by decide) ?_
          refine x_icmp_le_n C (tgt := 62) (dk ddX11_sets 32 rfl) (by decide) (by omega) (by decide) (fun h54 => ?_) (fun h54 => ?_)
          · refine x_lconst C (v := 0) (dk ddX11_sets 35 rfl) (by decide) ?_
            refine x_last_n C ht.1 ht.2.1 ht.2.2 (by decide) (by decide) (dk ddX11_sets 36 rfl) ?_
            exact x_vret C rfl ⟨rfl, rfl, rfl, by unfold ax_st; rw [if_pos (by omega : 0 < n), if_pos (by omega : 1 < n), if_neg (by omega : ¬ 2 < n)]⟩ rfl rfl (dk ddX11_sets 37 rfl)
          · refine x_lload C (dk ddX11_sets 33 rfl) rfl ?_
            refine x_goto C (tgt := 63) (dk ddX11_sets 34 rfl) (by decide) ?_
            refine x_last_n C ht.1 ht.2.1 ht.2.2 (by decide) (by decide) (dk ddX11_sets 36 rfl) ?_
            exact x_vret C rfl ⟨rfl, rfl, rfl, by unfold ax_st; rw [if_pos (by omega : 0 < n), if_pos (by omega : 1 < n), if_pos (by omega : 2 < n)]⟩ rfl rfl (dk ddX11_sets 37 rfl)
    | succ n_ ih_ =>
      intro k hk_
      refine x_iload C (dk ddX11_sets 2 rfl) rfl ?_
      refine x_bipush C (v := nI 6) (dk ddX11_sets 3 rfl) (by decide) ?_
      refine x_icmp_ge_n C (tgt := 21) (dk ddX11_sets 4 rfl) (by decide) (by omega) (by decide) (fun h7 => ?_) (fun h7 => ?_)
      · exfalso
        omega
      · refine x_aload_n C (dk ddX11_sets 5 rfl) rfl ?_
        refine x_iload C (dk ddX11_sets 6 rfl) rfl ?_
        refine x_lconst C (v := 0) (dk ddX11_sets 7 rfl) (by decide) ?_
        refine x_last_n C ht.1 ht.2.1 ht.2.2 (by omega) (by decide) (dk ddX11_sets 8 rfl) ?_
        refine x_iinc C (v := nI (k + 1)) (lv' := [(9, .int (nI (k + 1))), (0, .ref m), (1, .ref t), (2, .long a), (4, .long b), (6, .long e), (8, .int (nI n))]) (dk ddX11_sets 9 rfl) rfl (nI_add k 1) (by decide) rfl ?_
        refine x_goto C (tgt := 3) (dk ddX11_sets 10 rfl) (by decide) ?_
        refine x_sub [0, 1, 2, 3, 4, 5, 6] (lv' := [(9, .int (nI (k + 1))), (0, .ref m), (1, .ref t), (2, .long a), (4, .long b), (6, .long e), (8, .int (nI n))]) rfl ?_
        exact ih_ (k + 1) (by omega)
  refine x_iconst C (v := nI 0) (dk ddX11_sets 0 rfl) (by decide) ?_
  refine x_istore C (lv' := [(9, .int (nI 0)), (0, .ref m), (1, .ref t), (2, .long a), (4, .long b), (6, .long e), (8, .int (nI n))]) (dk ddX11_sets 1 rfl) (by decide) rfl ?_
  exact hloop 6 0 (by omega)
set_option maxRecDepth 20000 in
/-- keep() -/
theorem k_X11_keep (l : Launch) (D : va_G) (T : Nat → ClassId) (o d : Nat) (G : ax_G) (I : ax_I) (L : ax_L) (m : Nat) (hM : ax_Mod G m) (hd : 1 ≤ d) : ax_Con l D T o yX11_keep cX11_keep 1 (some .int) d 0 0 [.ref m] G I L (fun v G' I' L' => v = some (.int (nI 1)) ∧ G = G' ∧ ax_u (ax_cp I (m + 1) (m + 2) 0 0 353) m 4 1 = I' ∧ L = L') := by
  refine ax_enter (by decide +kernel) (Nat.le_of_ble_eq_true rfl) ?_
  intro p_ e_ s_ m_ args_ below_ meth_ c_ C _
  refine x_lvs (lv' := [(0, .ref m)]) rfl ?_
  refine x_aload_n C (dk ddX11_keep 0 rfl) rfl ?_
  refine x_getr C flX11_7 rfl (hM.lt (j := 0) (by decide)) hM.2.1 (show ax_R G m 0 = some (m + 1) from (hM.2.2 0 _ rfl).1) (dk ddX11_keep 1 rfl) ?_
  refine x_iconst C (v := nI 0) (dk ddX11_keep 2 rfl) (by decide) ?_
  refine x_aload_n C (dk ddX11_keep 3 rfl) rfl ?_
  refine x_getr C flX11_13 rfl (hM.lt (j := 0) (by decide)) hM.2.1 (show ax_R G m 1 = some (m + 2) from (hM.2.2 1 _ rfl).1) (dk ddX11_keep 4 rfl) ?_
  refine x_iconst C (v := nI 0) (dk ddX11_keep 5 rfl) (by decide) ?_
  refine x_callS C (As := [.ref (m + 1), .int (nI 0), .ref (m + 2), .int (nI 0)]) (k_X11_saves l D T o (d - 1) G I L (m + 1) 0 (m + 2) 0 (by omega) (hM.lt (j := 1) (by decide)) (hM.2.2 0 _ rfl).2.1 (hM.lt (j := 2) (by decide)) (hM.2.2 1 _ rfl).2.1 (by rw [(show ax_N G (m + 1) = 353 from (hM.2.2 0 _ rfl).2.2)]; omega) (by rw [(show ax_N G (m + 2) = 353 from (hM.2.2 1 _ rfl).2.2)]; omega) (by rw [(show ax_N G (m + 1) = 353 from (hM.2.2 0 _ rfl).2.2)]; decide) (by rw [(show ax_N G (m + 2) = 353 from (hM.2.2 1 _ rfl).2.2)]; decide)) mlX11_117 ⟨by show d - 1 + 1 ≤ d; omega, by show 40 * (d - 1 + 1) ≤ 40 * d; omega⟩ ⟨Nat.le_refl _, Nat.le_refl _⟩ rfl (Nat.le_of_ble_eq_true rfl) (dk ddX11_keep 6 rfl) ?_
  rintro v_ G_ I_ L_ ⟨rfl, rfl, rfl, rfl⟩
  refine x_aload_n C (dk ddX11_keep 7 rfl) rfl ?_
  refine x_iconst C (v := nI 1) (dk ddX11_keep 8 rfl) (by decide) ?_
  refine x_puti C flX11_437 fw11 rfl rfl (hM.lt (j := 0) (by decide)) hM.2.1 rfl rfl (dk ddX11_keep 9 rfl) ?_
  refine x_iconst C (v := nI 1) (dk ddX11_keep 10 rfl) (by decide) ?_
  exact x_iret C rfl ⟨rfl, rfl, rfl, rfl⟩ rfl rfl (dk ddX11_keep 11 rfl)
def ax_og (S : Nat → Int32) (wh : Nat) : Nat → Int32
  | 0 => nI 0
  | n + 1 => ax_og S wh n + S (14 * n + wh)
set_option maxRecDepth 20000 in
/-- ofGroups(what) -/
theorem k_X11_ofGroups (l : Launch) (D : va_G) (T : Nat → ClassId) (o d : Nat) (G : ax_G) (I : ax_I) (L : ax_L) (m z : Nat) (hM : ax_Mod G m) (hz : z ≤ 1) : ax_Con l D T o yX11_ofGroups cX11_ofGroups 4 (some .int) d 0 0 [.ref m, .int (nI z)] G I L (ax_pure G I L (.int (ax_og (I (m + 1)) z 6))) := by
  refine ax_enter (by decide +kernel) (Nat.le_of_ble_eq_true rfl) ?_
  intro p_ e_ s_ m_ args_ below_ meth_ c_ C _
  refine x_lvs (lv' := [(0, .ref m), (1, .int (nI z))]) rfl ?_
  have hloop : ∀ (n_ k : Nat), k + n_ = 6 → ax_XM p_ l e_ s_ m_ args_ below_ meth_ c_ 4 D T o d 0 0 G (ax_pure G I L (.int (ax_og (I (m + 1)) z 6))) G I L 4 [(3, .int (nI k)), (2, .int (ax_og (I (m + 1)) z k)), (0, .ref m), (1, .int (nI z))] [] := by
    intro n_
    induction n_ with
    | zero =>
      intro k hk_
      rw [show k = 6 by omega]
      refine x_iload_n C (dk ddX11_ofGroups 4 rfl) rfl ?_
      refine x_bipush C (v := nI 6) (dk ddX11_ofGroups 5 rfl) (by decide) ?_
      refine x_icmp_ge_n C (tgt := 30) (dk ddX11_ofGroups 6 rfl) (by decide) (by decide) (by decide) (fun _ => ?_) (fun h_ => absurd h_ (by decide))
      refine x_iload_n C (dk ddX11_ofGroups 20 rfl) rfl ?_
      exact x_iret C rfl (ax_pure_i rfl) rfl rfl (dk ddX11_ofGroups 21 rfl)
    | succ n_ ih_ =>
      intro k hk_
      refine x_iload_n C (dk ddX11_ofGroups 4 rfl) rfl ?_
      refine x_bipush C (v := nI 6) (dk ddX11_ofGroups 5 rfl) (by decide) ?_
      refine x_icmp_ge_n C (tgt := 30) (dk ddX11_ofGroups 6 rfl) (by decide) (by omega) (by decide) (fun h7 => ?_) (fun h7 => ?_)
      · exfalso
        omega
      · refine x_iload_n C (dk ddX11_ofGroups 7 rfl) rfl ?_
        refine x_aload_n C (dk ddX11_ofGroups 8 rfl) rfl ?_
        refine x_getr C flX11_7 rfl (hM.lt (j := 0) (by decide)) hM.2.1 (show ax_R G m 0 = some (m + 1) from (hM.2.2 0 _ rfl).1) (dk ddX11_ofGroups 9 rfl) ?_
        refine x_bipush C (v := nI 14) (dk ddX11_ofGroups 10 rfl) (by decide) ?_
        refine x_iload_n C (dk ddX11_ofGroups 11 rfl) rfl ?_
        refine x_imul_n C (dk ddX11_ofGroups 12 rfl) ?_
        refine x_iload_n C (dk ddX11_ofGroups 13 rfl) rfl ?_
        refine x_iadd_n C (dk ddX11_ofGroups 14 rfl) ?_
        refine x_iald_n C (hM.lt (j := 1) (by decide)) (hM.2.2 0 _ rfl).2.1 (show ax_N G (m + 1) = 353 from (hM.2.2 0 _ rfl).2.2) (by omega) (by decide) (dk ddX11_ofGroups 15 rfl) ?_
        refine x_iadd C (dk ddX11_ofGroups 16 rfl) ?_
        refine x_istore_n C (lv' := [(2, .int ((ax_og (I (m + 1)) z k) + (I (m + 1) (14 * k + z)))), (3, .int (nI k)), (0, .ref m), (1, .int (nI z))]) (dk ddX11_ofGroups 17 rfl) (by decide) rfl ?_
        refine x_iinc C (v := nI (k + 1)) (lv' := [(3, .int (nI (k + 1))), (2, .int ((ax_og (I (m + 1)) z k) + (I (m + 1) (14 * k + z)))), (0, .ref m), (1, .int (nI z))]) (dk ddX11_ofGroups 18 rfl) rfl (nI_add k 1) (by decide) rfl ?_
        refine x_goto C (tgt := 4) (dk ddX11_ofGroups 19 rfl) (by decide) ?_
        refine x_sub [0, 1, 2, 3] (lv' := [(3, .int (nI (k + 1))), (2, .int (ax_og (I (m + 1)) z (k + 1))), (0, .ref m), (1, .int (nI z))]) rfl ?_
        exact ih_ (k + 1) (by omega)
  refine x_iconst C (v := nI 0) (dk ddX11_ofGroups 0 rfl) (by decide) ?_
  refine x_istore_n C (lv' := [(2, .int (nI 0)), (0, .ref m), (1, .int (nI z))]) (dk ddX11_ofGroups 1 rfl) (by decide) rfl ?_
  refine x_iconst C (v := nI 0) (dk ddX11_ofGroups 2 rfl) (by decide) ?_
  refine x_istore_n C (lv' := [(3, .int (nI 0)), (2, .int (nI 0)), (0, .ref m), (1, .int (nI z))]) (dk ddX11_ofGroups 3 rfl) (by decide) rfl ?_
  refine x_sub [0, 1, 2, 3] (lv' := [(3, .int (nI 0)), (2, .int (ax_og (I (m + 1)) z 0)), (0, .ref m), (1, .int (nI z))]) rfl ?_
  exact hloop 6 0 (by omega)
