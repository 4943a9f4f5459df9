/-! ===== the class: fillNothing ===== -/
/-- a relation comes to the coming row, so many numbers -/
def ax_fnr (I : ax_I) (a b z : Nat) : Nat → ax_L → ax_L
  | 0, J => J
  | n + 1, J => ax_u (ax_fnr I a b z n J) (b + 8) n (I (a + 3) (z + n)).toInt64
/-- so many relations of group g come to Lattice b -/
def ax_fno (I : ax_I) (a b g n : Nat) : Nat → ax_L → ax_L
  | 0, L => L
  | k + 1, L => ax_dnr b n n (ax_ins b n n 0 (ax_fnr I a b ((g * 4 + k) * 3) 3 (ax_fno I a b g n k L)))
set_option maxRecDepth 20000 in
/-- fillNothing(g, lattice) -/
theorem k_X7_fillNothing (l : Launch) (D : va_G) (T : Nat → ClassId) (o d : Nat) (G : ax_G) (I : ax_I) (L : ax_L) (a g b n c : Nat) (ha : ax_Sta G a) (hb : ax_Lat G b) (hab : b + 9 ≤ a ∨ a + 14 ≤ b) (hg : g < 6) (hn : I (a + 1) g = nI n) (hn3 : n ≤ 3) (hc : I (a + 2) g = nI c) (hc4 : c ≤ 4) (hd : 3 ≤ d) : ax_Con l D T o yX7_fillNothing cX7_fillNothing 5 none d 0 0 [.ref a, .int (nI g), .ref b] G I L (fun z G' I' L' => z = none ∧ G = G' ∧ ax_u I b 2 (nI n) = I' ∧ ax_fno (ax_u I b 2 (nI n)) a b g n c (ax_clr b 6 L) = L') := by
  refine ax_enter (by decide +kernel) (Nat.le_of_ble_eq_true rfl) ?_
  intro p_ e_ s_ m_ args_ below_ meth_ c_ C _
  refine x_lvs (lv' := [(0, .ref a), (1, .int (nI g)), (2, .ref b)]) rfl ?_
  have hloop : ∀ (n_ k : Nat), k + n_ = c → ax_XM p_ l e_ s_ m_ args_ below_ meth_ c_ 5 D T o d 0 0 G (fun z G' I' L' => z = none ∧ G = G' ∧ ax_u I b 2 (nI n) = I' ∧ ax_fno (ax_u I b 2 (nI n)) a b g n c (ax_clr b 6 L) = L') G (ax_u I b 2 (nI n)) (ax_fno (ax_u I b 2 (nI n)) a b g n k (ax_clr b 6 L)) 12 [(3, .int (nI k)), (0, .ref a), (1, .int (nI g)), (2, .ref b)] [] := by
    intro n_
    induction n_ with
    | zero =>
      intro k hk_
      rw [show k = c by omega]
      refine x_iload_n C (dk ddX7_fillNothing 8 rfl) rfl ?_
      refine x_aload_n C (dk ddX7_fillNothing 9 rfl) rfl ?_
      refine x_getr C flX7_15 rfl (by have h_ := ha.1; omega) (show ax_K G a = 8 + 7 from (ha.2 0 _ rfl).1) (show ax_R G a 1 = some (a + 2) from (ha.2 0 _ rfl).2.2 (1, 2) (by decide)) (dk ddX7_fillNothing 10 rfl) ?_
      refine x_iload_n C (dk ddX7_fillNothing 11 rfl) rfl ?_
      refine x_iald_n C (by have h_ := ha.1; omega) (show ax_K G (a + 2) = 0 from (ha.2 2 _ rfl).1) (show ax_N G (a + 2) = 6 from (ha.2 2 _ rfl).2.1) (by omega) (by decide) (dk ddX7_fillNothing 12 rfl) ?_
      rw [show ((ax_u I b 2 (nI n)) (a + 2) g) = nI c from (by first | exact hc | (rw [ax_u_ne (by omega)]; exact hc))]
      refine x_icmp_ge_n C (tgt := 70) (dk ddX7_fillNothing 13 rfl) (by decide) (by omega) (by omega) (fun h19 => ?_) (fun h19 => ?_)
      · exact x_vret C rfl ⟨rfl, rfl, rfl, rfl⟩ rfl rfl (dk ddX7_fillNothing 42 rfl)
      · exfalso
        omega
    | succ n_ ih_ =>
      intro k hk_
      refine x_iload_n C (dk ddX7_fillNothing 8 rfl) rfl ?_
      refine x_aload_n C (dk ddX7_fillNothing 9 rfl) rfl ?_
      refine x_getr C flX7_15 rfl (by have h_ := ha.1; omega) (show ax_K G a = 8 + 7 from (ha.2 0 _ rfl).1) (show ax_R G a 1 = some (a + 2) from (ha.2 0 _ rfl).2.2 (1, 2) (by decide)) (dk ddX7_fillNothing 10 rfl) ?_
      refine x_iload_n C (dk ddX7_fillNothing 11 rfl) rfl ?_
      refine x_iald_n C (by have h_ := ha.1; omega) (show ax_K G (a + 2) = 0 from (ha.2 2 _ rfl).1) (show ax_N G (a + 2) = 6 from (ha.2 2 _ rfl).2.1) (by omega) (by decide) (dk ddX7_fillNothing 12 rfl) ?_
      rw [show ((ax_u I b 2 (nI n)) (a + 2) g) = nI c from (by first | exact hc | (rw [ax_u_ne (by omega)]; exact hc))]
      refine x_icmp_ge_n C (tgt := 70) (dk ddX7_fillNothing 13 rfl) (by decide) (by omega) (by omega) (fun h19 => ?_) (fun h19 => ?_)
      · exfalso
        omega
      · refine x_iconst C (v := nI 0) (dk ddX7_fillNothing 14 rfl) (by decide) ?_
        refine x_istore C (lv' := [(4, .int (nI 0)), (3, .int (nI k)), (0, .ref a), (1, .int (nI g)), (2, .ref b)]) (dk ddX7_fillNothing 15 rfl) (by decide) rfl ?_
        have hin : ∀ (nq_ q : Nat), q + nq_ = 3 → ax_XM p_ l e_ s_ m_ args_ below_ meth_ c_ 5 D T o d 0 0 G (fun z G' I' L' => z = none ∧ G = G' ∧ ax_u I b 2 (nI n) = I' ∧ ax_fno (ax_u I b 2 (nI n)) a b g n c (ax_clr b 6 L) = L') G (ax_u I b 2 (nI n)) (ax_fnr (ax_u I b 2 (nI n)) a b ((g * 4 + k) * 3) q (ax_fno (ax_u I b 2 (nI n)) a b g n k (ax_clr b 6 L))) 25 [(4, .int (nI q)), (3, .int (nI k)), (0, .ref a), (1, .int (nI g)), (2, .ref b)] [] := by
          intro nq_
          induction nq_ with
          | zero =>
            intro q hkq_
            rw [show q = 3 by omega]
            refine x_iload C (dk ddX7_fillNothing 16 rfl) rfl ?_
            refine x_iconst C (v := nI 3) (dk ddX7_fillNothing 17 rfl) (by decide) ?_
            refine x_icmp_ge_n C (tgt := 60) (dk ddX7_fillNothing 18 rfl) (by decide) (by decide) (by decide) (fun _ => ?_) (fun h_ => absurd h_ (by decide))
            refine x_aload_n C (dk ddX7_fillNothing 38 rfl) rfl ?_
            refine x_callV C (ci := 2) (As := []) (k_X2_insertComing l D T o (d - 1) G (ax_u I b 2 (nI n)) (ax_fnr (ax_u I b 2 (nI n)) a b ((g * 4 + k) * 3) 3 (ax_fno (ax_u I b 2 (nI n)) a b g n k (ax_clr b 6 L))) b n hb (ax_u_at _ _ _ _) (by omega) (by omega)) mlX7_87 rfl rfl (by have h_ := hb.1; omega) hb.2.1 ⟨by show d - 1 + 1 ≤ d; omega, by show 40 * (d - 1 + 1) ≤ 40 * d; omega⟩ ⟨Nat.le_refl _, Nat.le_refl _⟩ rfl (Nat.le_of_ble_eq_true rfl) (dk ddX7_fillNothing 39 rfl) ?_
            rintro v_ G_ I_ L_ ⟨rfl, rfl, rfl, rfl⟩
            refine x_iinc C (v := nI (k + 1)) (lv' := [(3, .int (nI (k + 1))), (4, .int (nI 3)), (0, .ref a), (1, .int (nI g)), (2, .ref b)]) (dk ddX7_fillNothing 40 rfl) rfl (nI_add k 1) (by decide) rfl ?_
            refine x_goto C (tgt := 12) (dk ddX7_fillNothing 41 rfl) (by decide) ?_
            refine x_sub [0, 2, 3, 4] (lv' := [(3, .int (nI (k + 1))), (0, .ref a), (1, .int (nI g)), (2, .ref b)]) rfl ?_
            exact ih_ (k + 1) (by omega)
          | succ nq_ ihq_ =>
            intro q hkq_
            refine x_iload C (dk ddX7_fillNothing 16 rfl) rfl ?_
            refine x_iconst C (v := nI 3) (dk ddX7_fillNothing 17 rfl) (by decide) ?_
            refine x_icmp_ge_n C (tgt := 60) (dk ddX7_fillNothing 18 rfl) (by decide) (by omega) (by decide) (fun h28 => ?_) (fun h28 => ?_)
            · exfalso
              omega
            · refine x_aload_n C (dk ddX7_fillNothing 19 rfl) rfl ?_
              refine x_getr C flX7_83 rfl (by have h_ := hb.1; omega) hb.2.1 hb.2.2.2.1 (dk ddX7_fillNothing 20 rfl) ?_
              refine x_iload C (dk ddX7_fillNothing 21 rfl) rfl ?_
              refine x_aload_n C (dk ddX7_fillNothing 22 rfl) rfl ?_
              refine x_getr C flX7_18 rfl (by have h_ := ha.1; omega) (show ax_K G a = 8 + 7 from (ha.2 0 _ rfl).1) (show ax_R G a 2 = some (a + 3) from (ha.2 0 _ rfl).2.2 (2, 3) (by decide)) (dk ddX7_fillNothing 23 rfl) ?_
              refine x_iload_n C (dk ddX7_fillNothing 24 rfl) rfl ?_
              refine x_iconst C (v := nI 4) (dk ddX7_fillNothing 25 rfl) (by decide) ?_
              refine x_imul_n C (dk ddX7_fillNothing 26 rfl) ?_
              refine x_iload_n C (dk ddX7_fillNothing 27 rfl) rfl ?_
              refine x_iadd_n C (dk ddX7_fillNothing 28 rfl) ?_
              refine x_iconst C (v := nI 3) (dk ddX7_fillNothing 29 rfl) (by decide) ?_
              refine x_imul_n C (dk ddX7_fillNothing 30 rfl) ?_
              refine x_iload C (dk ddX7_fillNothing 31 rfl) rfl ?_
              refine x_iadd_n C (dk ddX7_fillNothing 32 rfl) ?_
              refine x_iald_n C (by have h_ := ha.1; omega) (show ax_K G (a + 3) = 0 from (ha.2 3 _ rfl).1) (show ax_N G (a + 3) = 72 from (ha.2 3 _ rfl).2.1) (by omega) (by decide) (dk ddX7_fillNothing 33 rfl) ?_
              refine x_i2l C (dk ddX7_fillNothing 34 rfl) ?_
              refine x_last_n C (by have h_ := hb.1; omega) hb.2.2.2.2.2.2.2.1 hb.2.2.2.2.2.2.2.2 (by omega) (by decide) (dk ddX7_fillNothing 35 rfl) ?_
              refine x_iinc C (v := nI (q + 1)) (lv' := [(4, .int (nI (q + 1))), (3, .int (nI k)), (0, .ref a), (1, .int (nI g)), (2, .ref b)]) (dk ddX7_fillNothing 36 rfl) rfl (nI_add q 1) (by decide) rfl ?_
              refine x_goto C (tgt := 25) (dk ddX7_fillNothing 37 rfl) (by decide) ?_
              refine x_sub [0, 1, 2, 3, 4] (lv' := [(4, .int (nI (q + 1))), (3, .int (nI k)), (0, .ref a), (1, .int (nI g)), (2, .ref b)]) rfl ?_
              exact ihq_ (q + 1) (by omega)
        refine x_sub [0, 1, 2, 3, 4] (lv' := [(4, .int (nI 0)), (3, .int (nI k)), (0, .ref a), (1, .int (nI g)), (2, .ref b)]) rfl ?_
        exact hin 3 0 (by omega)
  refine x_aload_n C (dk ddX7_fillNothing 0 rfl) rfl ?_
  refine x_aload_n C (dk ddX7_fillNothing 1 rfl) rfl ?_
  refine x_getr C flX7_9 rfl (by have h_ := ha.1; omega) (show ax_K G a = 8 + 7 from (ha.2 0 _ rfl).1) (show ax_R G a 0 = some (a + 1) from (ha.2 0 _ rfl).2.2 (0, 1) (by decide)) (dk ddX7_fillNothing 2 rfl) ?_
  refine x_iload_n C (dk ddX7_fillNothing 3 rfl) rfl ?_
  refine x_iald_n C (by have h_ := ha.1; omega) (show ax_K G (a + 1) = 0 from (ha.2 1 _ rfl).1) (show ax_N G (a + 1) = 6 from (ha.2 1 _ rfl).2.1) (by omega) (by decide) (dk ddX7_fillNothing 4 rfl) ?_
  rw [show (I (a + 1) g) = nI n from (by first | exact hn | (rw [ax_u_ne (by omega)]; exact hn))]
  refine x_callV C (ci := 2) (As := [.int (nI n)]) (k_X2_clear l D T o (d - 1) G I L b n hb (by omega) (by omega)) mlX7_77 rfl rfl (by have h_ := hb.1; omega) hb.2.1 ⟨by show d - 1 + 1 ≤ d; omega, by show 40 * (d - 1 + 1) ≤ 40 * d; omega⟩ ⟨Nat.le_refl _, Nat.le_refl _⟩ rfl (Nat.le_of_ble_eq_true rfl) (dk ddX7_fillNothing 5 rfl) ?_
  rintro v_ G_ I_ L_ ⟨rfl, rfl, rfl, rfl⟩
  refine x_iconst C (v := nI 0) (dk ddX7_fillNothing 6 rfl) (by decide) ?_
  refine x_istore_n C (lv' := [(3, .int (nI 0)), (0, .ref a), (1, .int (nI g)), (2, .ref b)]) (dk ddX7_fillNothing 7 rfl) (by decide) rfl ?_
  exact hloop c 0 (by omega)
