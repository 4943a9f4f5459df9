/-! ===== the class: rows of any length reduced ===== -/
set_option maxRecDepth 20000 in
/-- reduceFrom(row, first), a row of any length -/
theorem k_X2_reduceFrom_n (l : Launch) (D : va_G) (T : Nat → ClassId) (o d : Nat) (G : ax_G) (I : ax_I) (L : ax_L) (a q w f nq : Nat) (ha : ax_Lat G a) (hw : I a 2 = nI w) (hw6 : w ≤ 6) (hq : ax_La G q nq) (hwq : w ≤ nq) (hnq : nq < 2 ^ 31) (hf : f ≤ w) (hd : 1 ≤ d) : ax_Con l D T o yX2_reduceFrom cX2_reduceFrom 9 none d 0 0 [.ref a, .ref q, .int (nI f)] G I L (fun z G' I' L' => z = none ∧ G = G' ∧ I = I' ∧ ax_rfo a q w f (w - f) L = L') := by
  refine ax_enter (by decide +kernel) (Nat.le_of_ble_eq_true rfl) ?_
  intro p_ e_ s_ m_ args_ below_ meth_ c_ C _
  refine x_lvs (lv' := [(0, .ref a), (1, .ref q), (2, .int (nI f))]) rfl ?_
  have hloop : ∀ (n_ k : Nat), k + n_ = w - f → ax_XM p_ l e_ s_ m_ args_ below_ meth_ c_ 9 D T o d 0 0 G (fun z G' I' L' => z = none ∧ G = G' ∧ I = I' ∧ ax_rfo a q w f (w - f) L = L') G I (ax_rfo a q w f k L) 2 [(3, .int (nI (f + k))), (0, .ref a), (1, .ref q), (2, .int (nI f))] [] := by
    intro n_
    induction n_ with
    | zero =>
      intro k hk_
      rw [show k = w - f by omega]
      refine x_iload_n C (dk ddX2_reduceFrom 2 rfl) rfl ?_
      refine x_aload_n C (dk ddX2_reduceFrom 3 rfl) rfl ?_
      refine x_geti C flX2_20 rfl (by have h_ := ha.1; omega) ha.2.1 (dk ddX2_reduceFrom 4 rfl) ?_
      rw [show (I a 2) = nI w from hw]
      refine x_icmp_ge_n C (tgt := 87) (dk ddX2_reduceFrom 5 rfl) (by decide) (by omega) (by omega) (fun h7 => ?_) (fun h7 => ?_)
      · exact x_vret C rfl ⟨rfl, rfl, rfl, rfl⟩ rfl rfl (dk ddX2_reduceFrom 51 rfl)
      · exfalso
        omega
    | succ n_ ih_ =>
      intro k hk_
      refine x_iload_n C (dk ddX2_reduceFrom 2 rfl) rfl ?_
      refine x_aload_n C (dk ddX2_reduceFrom 3 rfl) rfl ?_
      refine x_geti C flX2_20 rfl (by have h_ := ha.1; omega) ha.2.1 (dk ddX2_reduceFrom 4 rfl) ?_
      rw [show (I a 2) = nI w from hw]
      refine x_icmp_ge_n C (tgt := 87) (dk ddX2_reduceFrom 5 rfl) (by decide) (by omega) (by omega) (fun h7 => ?_) (fun h7 => ?_)
      · exfalso
        omega
      · refine x_aload_n C (dk ddX2_reduceFrom 6 rfl) rfl ?_
        refine x_getr C flX2_11 rfl (by have h_ := ha.1; omega) ha.2.1 ha.2.2.1 (dk ddX2_reduceFrom 7 rfl) ?_
        refine x_iload_n C (dk ddX2_reduceFrom 8 rfl) rfl ?_
        refine x_aald7_n C (by have h_ := ha.1; omega) ha.2.2.2.2.1 ha.2.2.2.2.2.1 (by omega) (by decide) (ha.2.2.2.2.2.2.1 (f + k) (by omega)).1 (dk ddX2_reduceFrom 9 rfl) ?_
        refine x_iload_n C (dk ddX2_reduceFrom 10 rfl) rfl ?_
        refine x_lald_n C (by have h_ := ha.1; omega) (ha.2.2.2.2.2.2.1 (f + k) (by omega)).2.1 (ha.2.2.2.2.2.2.1 (f + k) (by omega)).2.2 (by omega) (by decide) (dk ddX2_reduceFrom 11 rfl) ?_
        refine x_lstore C (lv' := [(4, .long ((ax_rfo a q w f k L) (a + 2 + (f + k)) (f + k))), (3, .int (nI (f + k))), (0, .ref a), (1, .ref q), (2, .int (nI f))]) (dk ddX2_reduceFrom 12 rfl) (by decide) rfl ?_
        refine x_lload C (dk ddX2_reduceFrom 13 rfl) rfl ?_
        refine x_lconst C (v := 0) (dk ddX2_reduceFrom 14 rfl) (by decide) ?_
        refine x_lc_eq C (tgt := 81) (dk ddX2_reduceFrom 15 rfl) (dk ddX2_reduceFrom 16 rfl) (by decide) (fun h23 => ?_) (fun h23 => ?_)
        · refine x_iinc C (v := nI (f + k + 1)) (lv' := [(3, .int (nI (f + k + 1))), (4, .long ((ax_rfo a q w f k L) (a + 2 + (f + k)) (f + k))), (0, .ref a), (1, .ref q), (2, .int (nI f))]) (dk ddX2_reduceFrom 49 rfl) rfl (nI_add (f + k) 1) (by decide) rfl ?_
          refine x_goto C (tgt := 2) (dk ddX2_reduceFrom 50 rfl) (by decide) ?_
          have e_ : ax_rfo a q w f (k + 1) L = ax_rfo a q w f k L := by
            show (if _ then _ else if _ then _ else _) = _
            rw [if_pos h23]
          refine x_sub [0, 2, 3, 4] (lv' := [(3, .int (nI (f + (k + 1)))), (0, .ref a), (1, .ref q), (2, .int (nI f))]) rfl ?_
          have h_ := ih_ (k + 1) (by omega)
          rw [e_] at h_
          exact h_
        · refine x_aload_n C (dk ddX2_reduceFrom 17 rfl) rfl ?_
          refine x_iload_n C (dk ddX2_reduceFrom 18 rfl) rfl ?_
          refine x_lald_n C hq.1 hq.2.1 hq.2.2 (by omega) hnq (dk ddX2_reduceFrom 19 rfl) ?_
          refine x_lload C (dk ddX2_reduceFrom 20 rfl) rfl ?_
          refine x_callS C (As := [.long ((ax_rfo a q w f k L) q (f + k)), .long ((ax_rfo a q w f k L) (a + 2 + (f + k)) (f + k))]) (k_J9_floorDiv_f86c9 l D T o (d - 1) G I (ax_rfo a q w f k L) ((ax_rfo a q w f k L) q (f + k)) ((ax_rfo a q w f k L) (a + 2 + (f + k)) (f + k)) h23) mlX2_61 ⟨by show d - 1 + 1 ≤ d; omega, by show 40 * (d - 1 + 1) ≤ 40 * d; omega⟩ ⟨Nat.le_refl _, Nat.le_refl _⟩ rfl (Nat.le_of_ble_eq_true rfl) (dk ddX2_reduceFrom 21 rfl) ?_
          rintro v_ G_ I_ L_ ⟨rfl, rfl, rfl, rfl⟩
          refine x_lstore C (lv' := [(6, .long (ax_fd2 ((ax_rfo a q w f k L) q (f + k)) ((ax_rfo a q w f k L) (a + 2 + (f + k)) (f + k)))), (4, .long ((ax_rfo a q w f k L) (a + 2 + (f + k)) (f + k))), (3, .int (nI (f + k))), (0, .ref a), (1, .ref q), (2, .int (nI f))]) (dk ddX2_reduceFrom 22 rfl) (by decide) rfl ?_
          refine x_iload_n C (dk ddX2_reduceFrom 23 rfl) rfl ?_
          refine x_istore C (lv' := [(8, .int (nI (f + k))), (6, .long (ax_fd2 ((ax_rfo a q w f k L) q (f + k)) ((ax_rfo a q w f k L) (a + 2 + (f + k)) (f + k)))), (4, .long ((ax_rfo a q w f k L) (a + 2 + (f + k)) (f + k))), (3, .int (nI (f + k))), (0, .ref a), (1, .ref q), (2, .int (nI f))]) (dk ddX2_reduceFrom 24 rfl) (by decide) rfl ?_
          by_cases hv_ : ax_fd2 (ax_rfo a q w f k L q (f + k)) (ax_rfo a q w f k L (a + 2 + (f + k)) (f + k)) = 0
          · refine x_iload C (dk ddX2_reduceFrom 25 rfl) rfl ?_
            refine x_aload_n C (dk ddX2_reduceFrom 26 rfl) rfl ?_
            refine x_geti C flX2_20 rfl (by have h_ := ha.1; omega) ha.2.1 (dk ddX2_reduceFrom 27 rfl) ?_
            rw [show (I a 2) = nI w from hw]
            refine x_icmp_ge_n C (tgt := 81) (dk ddX2_reduceFrom 28 rfl) (by decide) (by omega) (by omega) (fun h46 => ?_) (fun h46 => ?_)
            · refine x_iinc C (v := nI (f + k + 1)) (lv' := [(3, .int (nI (f + k + 1))), (8, .int (nI (f + k))), (6, .long (ax_fd2 ((ax_rfo a q w f k L) q (f + k)) ((ax_rfo a q w f k L) (a + 2 + (f + k)) (f + k)))), (4, .long ((ax_rfo a q w f k L) (a + 2 + (f + k)) (f + k))), (0, .ref a), (1, .ref q), (2, .int (nI f))]) (dk ddX2_reduceFrom 49 rfl) rfl (nI_add (f + k) 1) (by decide) rfl ?_
              refine x_goto C (tgt := 2) (dk ddX2_reduceFrom 50 rfl) (by decide) ?_
              have e_ : ax_rfo a q w f (k + 1) L = ax_rfo a q w f k L := by
                show (if _ then _ else if _ then _ else _) = _
                rw [if_neg h23, if_pos hv_]
              refine x_sub [0, 4, 5, 6] (lv' := [(3, .int (nI (f + (k + 1)))), (0, .ref a), (1, .ref q), (2, .int (nI f))]) rfl ?_
              have h_ := ih_ (k + 1) (by omega)
              rw [e_] at h_
              exact h_
            · refine x_lload C (dk ddX2_reduceFrom 29 rfl) rfl ?_
              refine x_lconst C (v := 0) (dk ddX2_reduceFrom 30 rfl) (by decide) ?_
              refine x_lc_eq C (tgt := 81) (dk ddX2_reduceFrom 31 rfl) (dk ddX2_reduceFrom 32 rfl) (by decide) (fun h52 => ?_) (fun h52 => ?_)
              · refine x_iinc C (v := nI (f + k + 1)) (lv' := [(3, .int (nI (f + k + 1))), (8, .int (nI (f + k))), (6, .long (ax_fd2 ((ax_rfo a q w f k L) q (f + k)) ((ax_rfo a q w f k L) (a + 2 + (f + k)) (f + k)))), (4, .long ((ax_rfo a q w f k L) (a + 2 + (f + k)) (f + k))), (0, .ref a), (1, .ref q), (2, .int (nI f))]) (dk ddX2_reduceFrom 49 rfl) rfl (nI_add (f + k) 1) (by decide) rfl ?_
                refine x_goto C (tgt := 2) (dk ddX2_reduceFrom 50 rfl) (by decide) ?_
                have e_ : ax_rfo a q w f (k + 1) L = ax_rfo a q w f k L := by
                  show (if _ then _ else if _ then _ else _) = _
                  rw [if_neg h23, if_pos hv_]
                refine x_sub [0, 4, 5, 6] (lv' := [(3, .int (nI (f + (k + 1)))), (0, .ref a), (1, .ref q), (2, .int (nI f))]) rfl ?_
                have h_ := ih_ (k + 1) (by omega)
                rw [e_] at h_
                exact h_
              · exfalso
                exact h52 hv_
          · have hin : ∀ (nq_ c : Nat), c + nq_ = w - (f + k) → ax_XM p_ l e_ s_ m_ args_ below_ meth_ c_ 9 D T o d 0 0 G (fun z G' I' L' => z = none ∧ G = G' ∧ I = I' ∧ ax_rfo a q w f (w - f) L = L') G I (ax_rin a q (f + k) (ax_fd2 (ax_rfo a q w f k L q (f + k)) (ax_rfo a q w f k L (a + 2 + (f + k)) (f + k))) c (ax_rfo a q w f k L)) 40 [(8, .int (nI (f + k + c))), (6, .long (ax_fd2 (ax_rfo a q w f k L q (f + k)) (ax_rfo a q w f k L (a + 2 + (f + k)) (f + k)))), (4, .long (ax_rfo a q w f k L (a + 2 + (f + k)) (f + k))), (3, .int (nI (f + k))), (0, .ref a), (1, .ref q), (2, .int (nI f))] [] := by
              intro nq_
              induction nq_ with
              | zero =>
                intro c hkq_
                rw [show c = w - (f + k) by omega]
                refine x_iload C (dk ddX2_reduceFrom 25 rfl) rfl ?_
                refine x_aload_n C (dk ddX2_reduceFrom 26 rfl) rfl ?_
                refine x_geti C flX2_20 rfl (by have h_ := ha.1; omega) ha.2.1 (dk ddX2_reduceFrom 27 rfl) ?_
                rw [show (I a 2) = nI w from hw]
                refine x_icmp_ge_n C (tgt := 81) (dk ddX2_reduceFrom 28 rfl) (by decide) (by omega) (by omega) (fun h46 => ?_) (fun h46 => ?_)
                · refine x_iinc C (v := nI (f + k + 1)) (lv' := [(3, .int (nI (f + k + 1))), (8, .int (nI (f + k + (w - (f + k))))), (6, .long (ax_fd2 (ax_rfo a q w f k L q (f + k)) (ax_rfo a q w f k L (a + 2 + (f + k)) (f + k)))), (4, .long (ax_rfo a q w f k L (a + 2 + (f + k)) (f + k))), (0, .ref a), (1, .ref q), (2, .int (nI f))]) (dk ddX2_reduceFrom 49 rfl) rfl (nI_add (f + k) 1) (by decide) rfl ?_
                  refine x_goto C (tgt := 2) (dk ddX2_reduceFrom 50 rfl) (by decide) ?_
                  have e_ : ax_rfo a q w f (k + 1) L = ax_rin a q (f + k) (ax_fd2 (ax_rfo a q w f k L q (f + k)) (ax_rfo a q w f k L (a + 2 + (f + k)) (f + k))) (w - (f + k)) (ax_rfo a q w f k L) := by
                    show (if _ then _ else if _ then _ else _) = _
                    rw [if_neg h23, if_neg hv_]
                  refine x_sub [0, 4, 5, 6] (lv' := [(3, .int (nI (f + (k + 1)))), (0, .ref a), (1, .ref q), (2, .int (nI f))]) rfl ?_
                  have h_ := ih_ (k + 1) (by omega)
                  rw [e_] at h_
                  exact h_
                · exfalso
                  omega
              | succ nq_ ihq_ =>
                intro c hkq_
                refine x_iload C (dk ddX2_reduceFrom 25 rfl) rfl ?_
                refine x_aload_n C (dk ddX2_reduceFrom 26 rfl) rfl ?_
                refine x_geti C flX2_20 rfl (by have h_ := ha.1; omega) ha.2.1 (dk ddX2_reduceFrom 27 rfl) ?_
                rw [show (I a 2) = nI w from hw]
                refine x_icmp_ge_n C (tgt := 81) (dk ddX2_reduceFrom 28 rfl) (by decide) (by omega) (by omega) (fun h46 => ?_) (fun h46 => ?_)
                · exfalso
                  omega
                · refine x_lload C (dk ddX2_reduceFrom 29 rfl) rfl ?_
                  refine x_lconst C (v := 0) (dk ddX2_reduceFrom 30 rfl) (by decide) ?_
                  refine x_lc_eq C (tgt := 81) (dk ddX2_reduceFrom 31 rfl) (dk ddX2_reduceFrom 32 rfl) (by decide) (fun h52 => ?_) (fun h52 => ?_)
                  · exfalso
                    exact hv_ h52
                  · refine x_aload_n C (dk ddX2_reduceFrom 33 rfl) rfl ?_
                    refine x_iload C (dk ddX2_reduceFrom 34 rfl) rfl ?_
                    refine x_dup2 C (dk ddX2_reduceFrom 35 rfl) rfl rfl ?_
                    refine x_lald_n C hq.1 hq.2.1 hq.2.2 (by omega) hnq (dk ddX2_reduceFrom 36 rfl) ?_
                    refine x_lload C (dk ddX2_reduceFrom 37 rfl) rfl ?_
                    refine x_aload_n C (dk ddX2_reduceFrom 38 rfl) rfl ?_
                    refine x_getr C flX2_11 rfl (by have h_ := ha.1; omega) ha.2.1 ha.2.2.1 (dk ddX2_reduceFrom 39 rfl) ?_
                    refine x_iload_n C (dk ddX2_reduceFrom 40 rfl) rfl ?_
                    refine x_aald7_n C (by have h_ := ha.1; omega) ha.2.2.2.2.1 ha.2.2.2.2.2.1 (by omega) (by decide) (ha.2.2.2.2.2.2.1 (f + k) (by omega)).1 (dk ddX2_reduceFrom 41 rfl) ?_
                    refine x_iload C (dk ddX2_reduceFrom 42 rfl) rfl ?_
                    refine x_lald_n C (by have h_ := ha.1; omega) (ha.2.2.2.2.2.2.1 (f + k) (by omega)).2.1 (ha.2.2.2.2.2.2.1 (f + k) (by omega)).2.2 (by omega) (by decide) (dk ddX2_reduceFrom 43 rfl) ?_
                    refine x_lmul C (dk ddX2_reduceFrom 44 rfl) ?_
                    refine x_lsub C (dk ddX2_reduceFrom 45 rfl) ?_
                    refine x_last_n C hq.1 hq.2.1 hq.2.2 (by omega) hnq (dk ddX2_reduceFrom 46 rfl) ?_
                    refine x_iinc C (v := nI (f + k + c + 1)) (lv' := [(8, .int (nI (f + k + c + 1))), (6, .long (ax_fd2 (ax_rfo a q w f k L q (f + k)) (ax_rfo a q w f k L (a + 2 + (f + k)) (f + k)))), (4, .long (ax_rfo a q w f k L (a + 2 + (f + k)) (f + k))), (3, .int (nI (f + k))), (0, .ref a), (1, .ref q), (2, .int (nI f))]) (dk ddX2_reduceFrom 47 rfl) rfl (nI_add (f + k + c) 1) (by decide) rfl ?_
                    refine x_goto C (tgt := 40) (dk ddX2_reduceFrom 48 rfl) (by decide) ?_
                    refine x_sub [0, 1, 2, 3, 4, 5, 6] (lv' := [(8, .int (nI (f + k + (c + 1)))), (6, .long (ax_fd2 (ax_rfo a q w f k L q (f + k)) (ax_rfo a q w f k L (a + 2 + (f + k)) (f + k)))), (4, .long (ax_rfo a q w f k L (a + 2 + (f + k)) (f + k))), (3, .int (nI (f + k))), (0, .ref a), (1, .ref q), (2, .int (nI f))]) rfl ?_
                    exact ihq_ (c + 1) (by omega)
            refine x_sub [0, 1, 2, 3, 4, 5, 6] (lv' := [(8, .int (nI (f + k + 0))), (6, .long (ax_fd2 (ax_rfo a q w f k L q (f + k)) (ax_rfo a q w f k L (a + 2 + (f + k)) (f + k)))), (4, .long (ax_rfo a q w f k L (a + 2 + (f + k)) (f + k))), (3, .int (nI (f + k))), (0, .ref a), (1, .ref q), (2, .int (nI f))]) rfl ?_
            exact hin (w - (f + k)) 0 (by omega)
  refine x_iload_n C (dk ddX2_reduceFrom 0 rfl) rfl ?_
  refine x_istore_n C (lv' := [(3, .int (nI f)), (0, .ref a), (1, .ref q), (2, .int (nI f))]) (dk ddX2_reduceFrom 1 rfl) (by decide) rfl ?_
  refine x_sub [0, 1, 2, 3] (lv' := [(3, .int (nI (f + 0))), (0, .ref a), (1, .ref q), (2, .int (nI f))]) rfl ?_
  exact hloop (w - f) 0 (by omega)
set_option maxRecDepth 20000 in
/-- reduce(row), a row of any length -/
theorem k_X2_reduce_n (l : Launch) (D : va_G) (T : Nat → ClassId) (o d : Nat) (G : ax_G) (I : ax_I) (L : ax_L) (a q w nq : Nat) (ha : ax_Lat G a) (hw : I a 2 = nI w) (hw6 : w ≤ 6) (hq : ax_La G q nq) (hwq : w ≤ nq) (hnq : nq < 2 ^ 31) (hd : 2 ≤ d) : ax_Con l D T o yX2_reduce cX2_reduce 2 none d 0 0 [.ref a, .ref q] G I L (fun zz G' I' L' => zz = none ∧ G = G' ∧ I = I' ∧ (ax_rfo a q w 0 (w - 0) L) = L') := by
  refine ax_enter (by decide +kernel) (Nat.le_of_ble_eq_true rfl) ?_
  intro p_ e_ s_ m_ args_ below_ meth_ c_ C _
  refine x_lvs (lv' := [(0, .ref a), (1, .ref q)]) rfl ?_
  refine x_aload_n C (dk ddX2_reduce 0 rfl) rfl ?_
  refine x_aload_n C (dk ddX2_reduce 1 rfl) rfl ?_
  refine x_iconst C (v := nI 0) (dk ddX2_reduce 2 rfl) (by decide) ?_
  refine x_callV C (ci := 2) (As := [.ref q, .int (nI 0)]) (k_X2_reduceFrom_n l D T o (d - 1) G I L a q w 0 nq ha hw hw6 hq hwq hnq (by omega) (by omega)) mlX2_48 rfl rfl (by have h_ := ha.1; omega) ha.2.1 ⟨by show d - 1 + 1 ≤ d; omega, by show 40 * (d - 1 + 1) ≤ 40 * d; omega⟩ ⟨Nat.le_refl _, Nat.le_refl _⟩ rfl (Nat.le_of_ble_eq_true rfl) (dk ddX2_reduce 3 rfl) ?_
  rintro v_ G_ I_ L_ ⟨rfl, rfl, rfl, rfl⟩
  exact x_vret C rfl ⟨rfl, rfl, rfl, rfl⟩ rfl rfl (dk ddX2_reduce 4 rfl)
/-- so many lines are reduced -/
def ax_mkn (x : Nat) (y : Nat) (b : Nat) (v : Nat) : Nat → ax_L → ax_L
  | 0, J => J
  | n + 1, J => ax_cp (ax_rfo b y v 0 (v - 0) (ax_cp (ax_mkn x y b v n J) x y (3 * n) 0 3)) y x 0 (3 * n) 3
set_option maxRecDepth 20000 in
/-- makeNormal(nothing) -/
theorem k_X8_makeNormal (l : Launch) (D : va_G) (T : Nat → ClassId) (o d : Nat) (G : ax_G) (I : ax_I) (L : ax_L) (r x y b v : Nat) (hr : ax_Tb2 G r x y) (hb : ax_Lat G b) (hv : I b 2 = nI v) (hv3 : v ≤ 3) (hd : 3 ≤ d) : ax_Con l D T o yX8_makeNormal cX8_makeNormal 3 none d 0 0 [.ref r, .ref b] G I L (fun zz G' I' L' => zz = none ∧ G = G' ∧ I = I' ∧ (ax_mkn x y b v 3 L) = L') := by
  refine ax_enter (by decide +kernel) (Nat.le_of_ble_eq_true rfl) ?_
  intro p_ e_ s_ m_ args_ below_ meth_ c_ C _
  refine x_lvs (lv' := [(0, .ref r), (1, .ref b)]) rfl ?_
  have hxy_ := hr.2.2.2
  refine x_iconst C (v := nI 0) (dk ddX8_makeNormal 0 rfl) (by decide) ?_
  refine x_istore_n C (lv' := [(2, .int (nI 0)), (0, .ref r), (1, .ref b)]) (dk ddX8_makeNormal 1 rfl) (by decide) rfl ?_
  have hl10 : ∀ (n_10 k : Nat), k + n_10 = 3 → ax_XM p_ l e_ s_ m_ args_ below_ meth_ c_ 3 D T o d 0 0 G (fun zz G' I' L' => zz = none ∧ G = G' ∧ I = I' ∧ (ax_mkn x y b v 3 L) = L') G I (ax_mkn x y b v k L) 2 [(2, .int (nI k)), (0, .ref r), (1, .ref b)] [] := by
    intro n_10
    induction n_10 with
    | zero =>
      intro k hk_10
      rw [show k = 3 by omega]
      refine x_iload_n C (dk ddX8_makeNormal 2 rfl) rfl ?_
      refine x_iconst C (v := nI 3) (dk ddX8_makeNormal 3 rfl) (by decide) ?_
      refine x_icmp_ge_n C (tgt := 53) (dk ddX8_makeNormal 4 rfl) (by decide) (by decide) (by decide) (fun _ => ?_) (fun h_ => absurd h_ (by decide))
      exact x_vret C rfl ⟨rfl, rfl, rfl, rfl⟩ rfl rfl (dk ddX8_makeNormal 31 rfl)
    | succ n_10 ih_10 =>
      intro k hk_10
      refine x_iload_n C (dk ddX8_makeNormal 2 rfl) rfl ?_
      refine x_iconst C (v := nI 3) (dk ddX8_makeNormal 3 rfl) (by decide) ?_
      refine x_icmp_ge_n C (tgt := 53) (dk ddX8_makeNormal 4 rfl) (by decide) (by omega) (by decide) (fun h4 => ?_) (fun h4 => ?_)
      · exfalso
        omega
      · refine x_aload_n C (dk ddX8_makeNormal 5 rfl) rfl ?_
        refine x_getr C flX8_18 rfl hr.1.1 hr.1.2.1 hr.1.2.2.1 (dk ddX8_makeNormal 6 rfl) ?_
        refine x_iconst C (v := nI 3) (dk ddX8_makeNormal 7 rfl) (by decide) ?_
        refine x_iload_n C (dk ddX8_makeNormal 8 rfl) rfl ?_
        refine x_imul_n C (dk ddX8_makeNormal 9 rfl) ?_
        refine x_aload_n C (dk ddX8_makeNormal 10 rfl) rfl ?_
        refine x_getr C flX8_22 rfl hr.1.1 hr.1.2.1 hr.2.1 (dk ddX8_makeNormal 11 rfl) ?_
        refine x_iconst C (v := nI 0) (dk ddX8_makeNormal 12 rfl) (by decide) ?_
        refine x_iconst C (v := nI 3) (dk ddX8_makeNormal 13 rfl) (by decide) ?_
        refine x_copyl C (n := 3) (ax_inT 4 73 (by decide +kernel)) (ax_inT 2 164 (by decide +kernel)) (ax_inT 2 163 (by decide +kernel)) (ax_inT 1 15 (by decide +kernel)) hr.1.2.2.2.1 hr.1.2.2.2.2.1 hr.2.2.1.1 hr.2.2.1.2.1 (by rw [hr.1.2.2.2.2.2]; omega) (by rw [hr.2.2.1.2.2]; omega) (by omega) (by omega) (by omega) ⟨by show 1 ≤ d; omega, by show 40 ≤ 40 * d; omega⟩ (Nat.le_of_ble_eq_true rfl) (dk ddX8_makeNormal 14 rfl) ?_
        refine x_aload_n C (dk ddX8_makeNormal 15 rfl) rfl ?_
        refine x_aload_n C (dk ddX8_makeNormal 16 rfl) rfl ?_
        refine x_getr C flX8_22 rfl hr.1.1 hr.1.2.1 hr.2.1 (dk ddX8_makeNormal 17 rfl) ?_
        refine x_callV C (ci := 2) (As := [.ref y]) (k_X2_reduce_n l D T o (d - 1) G I (ax_cp (ax_mkn x y b v k L) x y (3 * k) 0 3) b y v 3 hb hv (by omega) ⟨hr.2.2.1.1, hr.2.2.1.2.1, hr.2.2.1.2.2⟩ (by omega) (by decide) (by omega)) mlX8_41 rfl rfl (by have h_ := hb.1; omega) hb.2.1 ⟨by show d - 1 + 1 ≤ d; omega, by show 40 * (d - 1 + 1) ≤ 40 * d; omega⟩ ⟨Nat.le_refl _, Nat.le_refl _⟩ rfl (Nat.le_of_ble_eq_true rfl) (dk ddX8_makeNormal 18 rfl) ?_
        rintro v_ G_ I_ L_ ⟨rfl, rfl, rfl, rfl⟩
        refine x_aload_n C (dk ddX8_makeNormal 19 rfl) rfl ?_
        refine x_getr C flX8_22 rfl hr.1.1 hr.1.2.1 hr.2.1 (dk ddX8_makeNormal 20 rfl) ?_
        refine x_iconst C (v := nI 0) (dk ddX8_makeNormal 21 rfl) (by decide) ?_
        refine x_aload_n C (dk ddX8_makeNormal 22 rfl) rfl ?_
        refine x_getr C flX8_18 rfl hr.1.1 hr.1.2.1 hr.1.2.2.1 (dk ddX8_makeNormal 23 rfl) ?_
        refine x_iconst C (v := nI 3) (dk ddX8_makeNormal 24 rfl) (by decide) ?_
        refine x_iload_n C (dk ddX8_makeNormal 25 rfl) rfl ?_
        refine x_imul_n C (dk ddX8_makeNormal 26 rfl) ?_
        refine x_iconst C (v := nI 3) (dk ddX8_makeNormal 27 rfl) (by decide) ?_
        refine x_copyl C (n := 3) (ax_inT 4 73 (by decide +kernel)) (ax_inT 2 164 (by decide +kernel)) (ax_inT 2 163 (by decide +kernel)) (ax_inT 1 15 (by decide +kernel)) hr.2.2.1.1 hr.2.2.1.2.1 hr.1.2.2.2.1 hr.1.2.2.2.2.1 (by rw [hr.2.2.1.2.2]; omega) (by rw [hr.1.2.2.2.2.2]; omega) (by omega) (by omega) (by omega) ⟨by show 1 ≤ d; omega, by show 40 ≤ 40 * d; omega⟩ (Nat.le_of_ble_eq_true rfl) (dk ddX8_makeNormal 28 rfl) ?_
        refine x_iinc C (v := nI (k + 1)) (lv' := [(2, .int (nI (k + 1))), (0, .ref r), (1, .ref b)]) (dk ddX8_makeNormal 29 rfl) rfl (nI_add k 1) (by decide) rfl ?_
        refine x_goto C (tgt := 2) (dk ddX8_makeNormal 30 rfl) (by decide) ?_
        have e_ : ax_mkn x y b v (k + 1) L = ax_cp (ax_rfo b y v 0 (v - 0) (ax_cp (ax_mkn x y b v k L) x y (3 * k) 0 3)) y x 0 (3 * k) 3 := rfl
        refine x_sub [0, 1, 2] (lv' := [(2, .int (nI (k + 1))), (0, .ref r), (1, .ref b)]) rfl ?_
        have h_ := ih_10 (k + 1) (by omega)
        rw [e_] at h_
        exact h_
  refine x_sub [0, 1, 2] (lv' := [(2, .int (nI 0)), (0, .ref r), (1, .ref b)]) rfl ?_
  exact hl10 3 0 (by omega)
