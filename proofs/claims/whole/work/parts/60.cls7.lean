/-! ===== the class: rank, index ===== -/
/-- how many leads of the first so many aren't 0 -/
def ax_rkc (a : Nat) (L : ax_L) : Nat → Nat
  | 0 => 0
  | n + 1 => ax_rkc a L n + (if L (a + 2 + n) n = 0 then 0 else 1)
theorem ax_rkc_t {a k : Nat} {L : ax_L} (h : L (a + 2 + k) k = 0) : ax_rkc a L k + 0 = ax_rkc a L (k + 1) := by
  show _ = ax_rkc a L k + (if L (a + 2 + k) k = 0 then 0 else 1); rw [if_pos h]
theorem ax_rkc_f {a k : Nat} {L : ax_L} (h : ¬ L (a + 2 + k) k = 0) : ax_rkc a L k + 1 = ax_rkc a L (k + 1) := by
  show _ = ax_rkc a L k + (if L (a + 2 + k) k = 0 then 0 else 1); rw [if_neg h]
/-- the product of the first so many leads -/
def ax_ixp (a : Nat) (L : ax_L) : Nat → Int64
  | 0 => 1
  | n + 1 => ax_ixp a L n * L (a + 2 + n) n
set_option maxRecDepth 20000 in
/-- rank() -/
theorem k_X2_rank (l : Launch) (D : va_G) (T : Nat → ClassId) (o d : Nat) (G : ax_G) (I : ax_I) (L : ax_L) (a w : Nat) (ha : ax_Lat G a) (hw : I a 2 = nI w) (hw6 : w ≤ 6) : ax_Con l D T o yX2_rank cX2_rank 3 (some .int) d 0 0 [.ref a] G I L (ax_pure G I L (.int (nI (ax_rkc a L w)))) := by
  refine ax_enter (by decide +kernel) (Nat.le_of_ble_eq_true rfl) ?_
  intro p_ e_ s_ m_ args_ below_ meth_ c_ C _
  refine x_lvs (lv' := [(0, .ref a)]) rfl ?_
  have hloop : ∀ (n_ k : Nat), k + n_ = w → ax_XM p_ l e_ s_ m_ args_ below_ meth_ c_ 3 D T o d 0 0 G (ax_pure G I L (.int (nI (ax_rkc a L w)))) G I L 4 [(2, .int (nI k)), (1, .int (nI (ax_rkc a L k))), (0, .ref a)] [] := by
    intro n_
    induction n_ with
    | zero =>
      intro k hk_
      rw [show k = w by omega]
      refine x_iload_n C (dk ddX2_rank 4 rfl) rfl ?_
      refine x_aload_n C (dk ddX2_rank 5 rfl) rfl ?_
      refine x_geti C flX2_20 rfl (by have h_ := ha.1; omega) ha.2.1 (dk ddX2_rank 6 rfl) ?_
      rw [show (I a 2) = nI w from hw]
      refine x_icmp_ge_n C (tgt := 39) (dk ddX2_rank 7 rfl) (by decide) (by omega) (by omega) (fun h9 => ?_) (fun h9 => ?_)
      · refine x_iload_n C (dk ddX2_rank 25 rfl) rfl ?_
        exact x_iret C rfl (ax_pure_i rfl) rfl rfl (dk ddX2_rank 26 rfl)
      · exfalso
        omega
    | succ n_ ih_ =>
      intro k hk_
      refine x_iload_n C (dk ddX2_rank 4 rfl) rfl ?_
      refine x_aload_n C (dk ddX2_rank 5 rfl) rfl ?_
      refine x_geti C flX2_20 rfl (by have h_ := ha.1; omega) ha.2.1 (dk ddX2_rank 6 rfl) ?_
      rw [show (I a 2) = nI w from hw]
      refine x_icmp_ge_n C (tgt := 39) (dk ddX2_rank 7 rfl) (by decide) (by omega) (by omega) (fun h9 => ?_) (fun h9 => ?_)
      · exfalso
        omega
      · refine x_iload_n C (dk ddX2_rank 8 rfl) rfl ?_
        refine x_aload_n C (dk ddX2_rank 9 rfl) rfl ?_
        refine x_getr C flX2_11 rfl (by have h_ := ha.1; omega) ha.2.1 ha.2.2.1 (dk ddX2_rank 10 rfl) ?_
        refine x_iload_n C (dk ddX2_rank 11 rfl) rfl ?_
        refine x_aald7_n C (by have h_ := ha.1; omega) ha.2.2.2.2.1 ha.2.2.2.2.2.1 (by omega) (by decide) (ha.2.2.2.2.2.2.1 k (by omega)).1 (dk ddX2_rank 12 rfl) ?_
        refine x_iload_n C (dk ddX2_rank 13 rfl) rfl ?_
        refine x_lald_n C (by have h_ := ha.1; omega) (ha.2.2.2.2.2.2.1 k (by omega)).2.1 (ha.2.2.2.2.2.2.1 k (by omega)).2.2 (by omega) (by decide) (dk ddX2_rank 14 rfl) ?_
        refine x_lconst C (v := 0) (dk ddX2_rank 15 rfl) (by decide) ?_
        refine x_lc_eq C (tgt := 30) (dk ddX2_rank 16 rfl) (dk ddX2_rank 17 rfl) (by decide) (fun h22 => ?_) (fun h22 => ?_)
        · refine x_iconst C (v := nI 0) (dk ddX2_rank 20 rfl) (by decide) ?_
          refine x_iadd_n C (dk ddX2_rank 21 rfl) ?_
          refine x_istore_n C (lv' := [(1, .int (nI (ax_rkc a L k + 0))), (2, .int (nI k)), (0, .ref a)]) (dk ddX2_rank 22 rfl) (by decide) rfl ?_
          refine x_iinc C (v := nI (k + 1)) (lv' := [(2, .int (nI (k + 1))), (1, .int (nI (ax_rkc a L k + 0))), (0, .ref a)]) (dk ddX2_rank 23 rfl) rfl (nI_add k 1) (by decide) rfl ?_
          refine x_goto C (tgt := 4) (dk ddX2_rank 24 rfl) (by decide) ?_
          rw [show (ax_rkc a L k + 0) = ax_rkc a L (k + 1) from ax_rkc_t h22]
          refine x_sub [0, 1, 2] (lv' := [(2, .int (nI (k + 1))), (1, .int (nI (ax_rkc a L (k + 1)))), (0, .ref a)]) rfl ?_
          exact ih_ (k + 1) (by omega)
        · refine x_iconst C (v := nI 1) (dk ddX2_rank 18 rfl) (by decide) ?_
          refine x_goto C (tgt := 31) (dk ddX2_rank 19 rfl) (by decide) ?_
          refine x_iadd_n C (dk ddX2_rank 21 rfl) ?_
          refine x_istore_n C (lv' := [(1, .int (nI (ax_rkc a L k + 1))), (2, .int (nI k)), (0, .ref a)]) (dk ddX2_rank 22 rfl) (by decide) rfl ?_
          refine x_iinc C (v := nI (k + 1)) (lv' := [(2, .int (nI (k + 1))), (1, .int (nI (ax_rkc a L k + 1))), (0, .ref a)]) (dk ddX2_rank 23 rfl) rfl (nI_add k 1) (by decide) rfl ?_
          refine x_goto C (tgt := 4) (dk ddX2_rank 24 rfl) (by decide) ?_
          rw [show (ax_rkc a L k + 1) = ax_rkc a L (k + 1) from ax_rkc_f h22]
          refine x_sub [0, 1, 2] (lv' := [(2, .int (nI (k + 1))), (1, .int (nI (ax_rkc a L (k + 1)))), (0, .ref a)]) rfl ?_
          exact ih_ (k + 1) (by omega)
  refine x_iconst C (v := nI 0) (dk ddX2_rank 0 rfl) (by decide) ?_
  refine x_istore_n C (lv' := [(1, .int (nI 0)), (0, .ref a)]) (dk ddX2_rank 1 rfl) (by decide) rfl ?_
  refine x_iconst C (v := nI 0) (dk ddX2_rank 2 rfl) (by decide) ?_
  refine x_istore_n C (lv' := [(2, .int (nI 0)), (1, .int (nI 0)), (0, .ref a)]) (dk ddX2_rank 3 rfl) (by decide) rfl ?_
  refine x_sub [0, 1, 2] (lv' := [(2, .int (nI 0)), (1, .int (nI (ax_rkc a L 0))), (0, .ref a)]) rfl ?_
  exact hloop w 0 (by omega)
set_option maxRecDepth 20000 in
/-- index() -/
theorem k_X2_index (l : Launch) (D : va_G) (T : Nat → ClassId) (o d : Nat) (G : ax_G) (I : ax_I) (L : ax_L) (a w : Nat) (ha : ax_Lat G a) (hw : I a 2 = nI w) (hw6 : w ≤ 6) : ax_Con l D T o yX2_index cX2_index 4 (some .long) d 0 0 [.ref a] G I L (ax_pure G I L (.long (ax_ixp a L w))) := by
  refine ax_enter (by decide +kernel) (Nat.le_of_ble_eq_true rfl) ?_
  intro p_ e_ s_ m_ args_ below_ meth_ c_ C _
  refine x_lvs (lv' := [(0, .ref a)]) rfl ?_
  have hloop : ∀ (n_ k : Nat), k + n_ = w → ax_XM p_ l e_ s_ m_ args_ below_ meth_ c_ 4 D T o d 0 0 G (ax_pure G I L (.long (ax_ixp a L w))) G I L 4 [(3, .int (nI k)), (1, .long (ax_ixp a L k)), (0, .ref a)] [] := by
    intro n_
    induction n_ with
    | zero =>
      intro k hk_
      rw [show k = w by omega]
      refine x_iload_n C (dk ddX2_index 4 rfl) rfl ?_
      refine x_aload_n C (dk ddX2_index 5 rfl) rfl ?_
      refine x_geti C flX2_20 rfl (by have h_ := ha.1; omega) ha.2.1 (dk ddX2_index 6 rfl) ?_
      rw [show (I a 2) = nI w from hw]
      refine x_icmp_ge_n C (tgt := 29) (dk ddX2_index 7 rfl) (by decide) (by omega) (by omega) (fun h9 => ?_) (fun h9 => ?_)
      · refine x_lload_n C (dk ddX2_index 19 rfl) rfl ?_
        exact x_lret C rfl (ax_pure_i rfl) rfl rfl (dk ddX2_index 20 rfl)
      · exfalso
        omega
    | succ n_ ih_ =>
      intro k hk_
      refine x_iload_n C (dk ddX2_index 4 rfl) rfl ?_
      refine x_aload_n C (dk ddX2_index 5 rfl) rfl ?_
      refine x_geti C flX2_20 rfl (by have h_ := ha.1; omega) ha.2.1 (dk ddX2_index 6 rfl) ?_
      rw [show (I a 2) = nI w from hw]
      refine x_icmp_ge_n C (tgt := 29) (dk ddX2_index 7 rfl) (by decide) (by omega) (by omega) (fun h9 => ?_) (fun h9 => ?_)
      · exfalso
        omega
      · refine x_lload_n C (dk ddX2_index 8 rfl) rfl ?_
        refine x_aload_n C (dk ddX2_index 9 rfl) rfl ?_
        refine x_getr C flX2_11 rfl (by have h_ := ha.1; omega) ha.2.1 ha.2.2.1 (dk ddX2_index 10 rfl) ?_
        refine x_iload_n C (dk ddX2_index 11 rfl) rfl ?_
        refine x_aald7_n C (by have h_ := ha.1; omega) ha.2.2.2.2.1 ha.2.2.2.2.2.1 (by omega) (by decide) (ha.2.2.2.2.2.2.1 k (by omega)).1 (dk ddX2_index 12 rfl) ?_
        refine x_iload_n C (dk ddX2_index 13 rfl) rfl ?_
        refine x_lald_n C (by have h_ := ha.1; omega) (ha.2.2.2.2.2.2.1 k (by omega)).2.1 (ha.2.2.2.2.2.2.1 k (by omega)).2.2 (by omega) (by decide) (dk ddX2_index 14 rfl) ?_
        refine x_lmul C (dk ddX2_index 15 rfl) ?_
        refine x_lstore_n C (lv' := [(1, .long ((ax_ixp a L k) * (L (a + 2 + k) k))), (3, .int (nI k)), (0, .ref a)]) (dk ddX2_index 16 rfl) (by decide) rfl ?_
        refine x_iinc C (v := nI (k + 1)) (lv' := [(3, .int (nI (k + 1))), (1, .long ((ax_ixp a L k) * (L (a + 2 + k) k))), (0, .ref a)]) (dk ddX2_index 17 rfl) rfl (nI_add k 1) (by decide) rfl ?_
        refine x_goto C (tgt := 4) (dk ddX2_index 18 rfl) (by decide) ?_
        refine x_sub [0, 1, 2] (lv' := [(3, .int (nI (k + 1))), (1, .long (ax_ixp a L (k + 1))), (0, .ref a)]) rfl ?_
        exact ih_ (k + 1) (by omega)
  refine x_lconst C (v := 1) (dk ddX2_index 0 rfl) (by decide) ?_
  refine x_lstore_n C (lv' := [(1, .long 1), (0, .ref a)]) (dk ddX2_index 1 rfl) (by decide) rfl ?_
  refine x_iconst C (v := nI 0) (dk ddX2_index 2 rfl) (by decide) ?_
  refine x_istore_n C (lv' := [(3, .int (nI 0)), (1, .long 1), (0, .ref a)]) (dk ddX2_index 3 rfl) (by decide) rfl ?_
  refine x_sub [0, 1, 2] (lv' := [(3, .int (nI 0)), (1, .long (ax_ixp a L 0)), (0, .ref a)]) rfl ?_
  exact hloop w 0 (by omega)
