/-! ===== the class: a row is reduced by a Lattice ===== -/
/-- v times row i is taken away from row q, so many places from i on -/
def ax_rin (a q i : Nat) (v : Int64) : Nat → ax_L → ax_L
  | 0, J => J
  | n + 1, J => ax_u (ax_rin a q i v n J) q (i + n) (ax_rin a q i v n J q (i + n) - v * ax_rin a q i v n J (a + 2 + i) (i + n))
/-- row q reduced by so many rows from f on -/
def ax_rfo (a q w f : Nat) : Nat → ax_L → ax_L
  | 0, L => L
  | k + 1, L => if ax_rfo a q w f k L (a + 2 + (f + k)) (f + k) = 0 then ax_rfo a q w f k L
    else if ax_fd2 (ax_rfo a q w f k L q (f + k)) (ax_rfo a q w f k L (a + 2 + (f + k)) (f + k)) = 0 then ax_rfo a q w f k L
    else ax_rin a q (f + k) (ax_fd2 (ax_rfo a q w f k L q (f + k)) (ax_rfo a q w f k L (a + 2 + (f + k)) (f + k))) (w - (f + k)) (ax_rfo a q w f k L)
set_option maxRecDepth 20000 in
/-- reduceFrom(row, first) -/
theorem k_X2_reduceFrom (l : Launch) (D : va_G) (T : Nat → ClassId) (o d : Nat) (G : ax_G) (I : ax_I) (L : ax_L) (a q w f : Nat) (ha : ax_Lat G a) (hw : I a 2 = nI w) (hw6 : w ≤ 6) (hq : ax_La G q 6) (hf : f ≤ w) (hd : 1 ≤ d) : ax_Con l D T o yX2_reduceFrom cX2_reduceFrom 9 none d 0 0 [.ref a, .ref q, .int (nI f)] G I L (fun z G' I' L' => z = none ∧ G = G' ∧ I = I' ∧ ax_rfo a q w f (w - f) L = L') := by
  refine ax_enter (by decide +kernel) (Nat.le_of_ble_eq_true rfl) ?_
  intro p_ e_ s_ m_ args_ below_ meth_ c_ C _
  refine x_lvs (lv' := [(0, .ref a), (1, .ref q), (2, .int (nI f))]) rfl ?_
  have hloop : ∀ (n_ k : Nat), k + n_ = w - f → ax_XM p_ l e_ s_ m_ args_ below_ meth_ c_ 9 D T o d 0 0 G (fun z G' I' L' => z = none ∧ G = G' ∧ I = I' ∧ ax_rfo a q w f (w - f) L = L') G I (ax_rfo a q w f k L) 2 [(3, .int (nI (f + k))), (0, .ref a), (1, .ref q), (2, .int (nI f))] [] := by
    intro n_
    induction n_ with
    | zero =>
      intro k hk_
      rw [show k = w - f by omega]
      refine x_iload_n C (dk ddX2_reduceFrom 2 rfl) rfl ?_
      refine x_aload_n C (dk ddX2_reduceFrom 3 rfl) rfl ?_
      refine x_geti C flX2_20 rfl (by have h_ := ha.1; omega) ha.2.1 (dk ddX2_reduceFrom 4 rfl) ?_
      rw [show (I a 2) = nI w from hw]
      refine x_icmp_ge_n C (tgt := 87) (dk ddX2_reduceFrom 5 rfl) (by decide) (by omega) (by omega) (fun h7 => ?_) (fun h7 => ?_)
      · exact x_vret C rfl ⟨rfl, rfl, rfl, rfl⟩ rfl rfl (dk ddX2_reduceFrom 51 rfl)
      · exfalso
        omega
    | succ n_ ih_ =>
      intro k hk_
      refine x_iload_n C (dk ddX2_reduceFrom 2 rfl) rfl ?_
      refine x_aload_n C (dk ddX2_reduceFrom 3 rfl) rfl ?_
      refine x_geti C flX2_20 rfl (by have h_ := ha.1; omega) ha.2.1 (dk ddX2_reduceFrom 4 rfl) ?_
      rw [show (I a 2) = nI w from hw]
      refine x_icmp_ge_n C (tgt := 87) (dk ddX2_reduceFrom 5 rfl) (by decide) (by omega) (by omega) (fun h7 => ?_) (fun h7 => ?_)
      · exfalso
        omega
      · refine x_aload_n C (dk ddX2_reduceFrom 6 rfl) rfl ?_
        refine x_getr C flX2_11 rfl (by have h_ := ha.1; omega) ha.2.1 ha.2.2.1 (dk ddX2_reduceFrom 7 rfl) ?_
        refine x_iload_n C (dk ddX2_reduceFrom 8 rfl) rfl ?_
        refine x_aald7_n C (by have h_ := ha.1; omega) ha.2.2.2.2.1 ha.2.2.2.2.2.1 (by omega) (by decide) (ha.2.2.2.2.2.2.1 (f + k) (by omega)).1 (dk ddX2_reduceFrom 9 rfl) ?_
        refine x_iload_n C (dk ddX2_reduceFrom 10 rfl) rfl ?_
        refine x_lald_n C (by have h_ := ha.1; omega) (ha.2.2.2.2.2.2.1 (f + k) (by omega)).2.1 (ha.2.2.2.2.2.2.1 (f + k) (by omega)).2.2 (by omega) (by decide) (dk ddX2_reduceFrom 11 rfl) ?_
        refine x_lstore C (lv' := [(4, .long ((ax_rfo a q w f k L) (a + 2 + (f + k)) (f + k))), (3, .int (nI (f + k))), (0, .ref a), (1, .ref q), (2, .int (nI f))]) (dk ddX2_reduceFrom 12 rfl) (by decide) rfl ?_
        refine x_lload C (dk ddX2_reduceFrom 13 rfl) rfl ?_
        refine x_lconst C (v := 0) (dk ddX2_reduceFrom 14 rfl) (by decide) ?_
        refine x_lc_eq C (tgt := 81) (dk ddX2_reduceFrom 15 rfl) (dk ddX2_reduceFrom 16 rfl) (by decide) (fun h23 => ?_) (fun h23 => ?_)
        · refine x_iinc C (v := nI (f + k + 1)) (lv' := [(3, .int (nI (f + k + 1))), (4, .long ((ax_rfo a q w f k L) (a + 2 + (f + k)) (f + k))), (0, .ref a), (1, .ref q), (2, .int (nI f))]) (dk ddX2_reduceFrom 49 rfl) rfl (nI_add (f + k) 1) (by decide) rfl ?_
          refine x_goto C (tgt := 2) (dk ddX2_reduceFrom 50 rfl) (by decide) ?_
          have e_ : ax_rfo a q w f (k + 1) L = ax_rfo a q w f k L := by
            show (if _ then _ else if _ then _ else _) = _
            rw [if_pos h23]
          refine x_sub [0, 2, 3, 4] (lv' := [(3, .int (nI (f + (k + 1)))), (0, .ref a), (1, .ref q), (2, .int (nI f))]) rfl ?_
          have h_ := ih_ (k + 1) (by omega)
          rw [e_] at h_
          exact h_
        · refine x_aload_n C (dk ddX2_reduceFrom 17 rfl) rfl ?_
          refine x_iload_n C (dk ddX2_reduceFrom 18 rfl) rfl ?_
          refine x_lald_n C hq.1 hq.2.1 hq.2.2 (by omega) (by decide) (dk ddX2_reduceFrom 19 rfl) ?_
          refine x_lload C (dk ddX2_reduceFrom 20 rfl) rfl ?_
          refine x_callS C (As := [.long ((ax_rfo a q w f k L) q (f + k)), .long ((ax_rfo a q w f k L) (a + 2 + (f + k)) (f + k))]) (k_J9_floorDiv_f86c9 l D T o (d - 1) G I (ax_rfo a q w f k L) ((ax_rfo a q w f k L) q (f + k)) ((ax_rfo a q w f k L) (a + 2 + (f + k)) (f + k)) h23) mlX2_61 ⟨by show d - 1 + 1 ≤ d; omega, by show 40 * (d - 1 + 1) ≤ 40 * d; omega⟩ ⟨Nat.le_refl _, Nat.le_refl _⟩ rfl (Nat.le_of_ble_eq_true rfl) (dk ddX2_reduceFrom 21 rfl) ?_
          rintro v_ G_ I_ L_ ⟨rfl, rfl, rfl, rfl⟩
          refine x_lstore C (lv' := [(6, .long (ax_fd2 ((ax_rfo a q w f k L) q (f + k)) ((ax_rfo a q w f k L) (a + 2 + (f + k)) (f + k)))), (4, .long ((ax_rfo a q w f k L) (a + 2 + (f + k)) (f + k))), (3, .int (nI (f + k))), (0, .ref a), (1, .ref q), (2, .int (nI f))]) (dk ddX2_reduceFrom 22 rfl) (by decide) rfl ?_
          refine x_iload_n C (dk ddX2_reduceFrom 23 rfl) rfl ?_
          refine x_istore C (lv' := [(8, .int (nI (f + k))), (6, .long (ax_fd2 ((ax_rfo a q w f k L) q (f + k)) ((ax_rfo a q w f k L) (a + 2 + (f + k)) (f + k)))), (4, .long ((ax_rfo a q w f k L) (a + 2 + (f + k)) (f + k))), (3, .int (nI (f + k))), (0, .ref a), (1, .ref q), (2, .int (nI f))]) (dk ddX2_reduceFrom 24 rfl) (by decide) rfl ?_
          by_cases hv_ : ax_fd2 (ax_rfo a q w f k L q (f + k)) (ax_rfo a q w f k L (a + 2 + (f + k)) (f + k)) = 0
          · refine x_iload C (dk ddX2_reduceFrom 25 rfl) rfl ?_
            refine x_aload_n C (dk ddX2_reduceFrom 26 rfl) rfl ?_
            refine x_geti C flX2_20 rfl (by have h_ := ha.1; omega) ha.2.1 (dk ddX2_reduceFrom 27 rfl) ?_
            rw [show (I a 2) = nI w from hw]
            refine x_icmp_ge_n C (tgt := 81) (dk ddX2_reduceFrom 28 rfl) (by decide) (by omega) (by omega) (fun h46 => ?_) (fun h46 => ?_)
            · refine x_iinc C (v := nI (f + k + 1)) (lv' := [(3, .int (nI (f + k + 1))), (8, .int (nI (f + k))), (6, .long (ax_fd2 ((ax_rfo a q w f k L) q (f + k)) ((ax_rfo a q w f k L) (a + 2 + (f + k)) (f + k)))), (4, .long ((ax_rfo a q w f k L) (a + 2 + (f + k)) (f + k))), (0, .ref a), (1, .ref q), (2, .int (nI f))]) (dk ddX2_reduceFrom 49 rfl) rfl (nI_add (f + k) 1) (by decide) rfl ?_
              refine x_goto C (tgt := 2) (dk ddX2_reduceFrom 50 rfl) (by decide) ?_
              have e_ : ax_rfo a q w f (k + 1) L = ax_rfo a q w f k L := by
                show (if _ then _ else if _ then _ else _) = _
                rw [if_neg h23, if_pos hv_]
              refine x_sub [0, 4, 5, 6] (lv' := [(3, .int (nI (f + (k + 1)))), (0, .ref a), (1, .ref q), (2, .int (nI f))]) rfl ?_
              have h_ := ih_ (k + 1) (by omega)
              rw [e_] at h_
              exact h_
            · refine x_lload C (dk ddX2_reduceFrom 29 rfl) rfl ?_
              refine x_lconst C (v := 0) (dk ddX2_reduceFrom 30 rfl) (by decide) ?_
              refine x_lc_eq C (tgt := 81) (dk ddX2_reduceFrom 31 rfl) (dk ddX2_reduceFrom 32 rfl) (by decide) (fun h52 => ?_) (fun h52 => ?_)
              · refine x_iinc C (v := nI (f + k + 1)) (lv' := [(3, .int (nI (f + k + 1))), (8, .int (nI (f + k))), (6, .long (ax_fd2 ((ax_rfo a q w f k L) q (f + k)) ((ax_rfo a q w f k L) (a + 2 + (f + k)) (f + k)))), (4, .long ((ax_rfo a q w f k L) (a + 2 + (f + k)) (f + k))), (0, .ref a), (1, .ref q), (2, .int (nI f))]) (dk ddX2_reduceFrom 49 rfl) rfl (nI_add (f + k) 1) (by decide) rfl ?_
                refine x_goto C (tgt := 2) (dk ddX2_reduceFrom 50 rfl) (by decide) ?_
                have e_ : ax_rfo a q w f (k + 1) L = ax_rfo a q w f k L := by
                  show (if _ then _ else if _ then _ else _) = _
                  rw [if_neg h23, if_pos hv_]
                refine x_sub [0, 4, 5, 6] (lv' := [(3, .int (nI (f + (k + 1)))), (0, .ref a), (1, .ref q), (2, .int (nI f))]) rfl ?_
                have h_ := ih_ (k + 1) (by omega)
                rw [e_] at h_
                exact h_
              · exfalso
                exact h52 hv_
          · have hin : ∀ (nq_ c : Nat), c + nq_ = w - (f + k) → ax_XM p_ l e_ s_ m_ args_ below_ meth_ c_ 9 D T o d 0 0 G (fun z G' I' L' => z = none ∧ G = G' ∧ I = I' ∧ ax_rfo a q w f (w - f) L = L') G I (ax_rin a q (f + k) (ax_fd2 (ax_rfo a q w f k L q (f + k)) (ax_rfo a q w f k L (a + 2 + (f + k)) (f + k))) c (ax_rfo a q w f k L)) 40 [(8, .int (nI (f + k + c))), (6, .long (ax_fd2 (ax_rfo a q w f k L q (f + k)) (ax_rfo a q w f k L (a + 2 + (f + k)) (f + k)))), (4, .long (ax_rfo a q w f k L (a + 2 + (f + k)) (f + k))), (3, .int (nI (f + k))), (0, .ref a), (1, .ref q), (2, .int (nI f))] [] := by
              intro nq_
              induction nq_ with
              | zero =>
                intro c hkq_
                rw [show c = w - (f + k) by omega]
                refine x_iload C (dk ddX2_reduceFrom 25 rfl) rfl ?_
                refine x_aload_n C (dk ddX2_reduceFrom 26 rfl) rfl ?_
                refine x_geti C flX2_20 rfl (by have h_ := ha.1; omega) ha.2.1 (dk ddX2_reduceFrom 27 rfl) ?_
                rw [show (I a 2) = nI w from hw]
                refine x_icmp_ge_n C (tgt := 81) (dk ddX2_reduceFrom 28 rfl) (by decide) (by omega) (by omega) (fun h46 => ?_) (fun h46 => ?_)
                · refine x_iinc C (v := nI (f + k + 1)) (lv' := [(3, .int (nI (f + k + 1))), (8, .int (nI (f + k + (w - (f + k))))), (6, .long (ax_fd2 (ax_rfo a q w f k L q (f + k)) (ax_rfo a q w f k L (a + 2 + (f + k)) (f + k)))), (4, .long (ax_rfo a q w f k L (a + 2 + (f + k)) (f + k))), (0, .ref a), (1, .ref q), (2, .int (nI f))]) (dk ddX2_reduceFrom 49 rfl) rfl (nI_add (f + k) 1) (by decide) rfl ?_
                  refine x_goto C (tgt := 2) (dk ddX2_reduceFrom 50 rfl) (by decide) ?_
                  have e_ : ax_rfo a q w f (k + 1) L = ax_rin a q (f + k) (ax_fd2 (ax_rfo a q w f k L q (f + k)) (ax_rfo a q w f k L (a + 2 + (f + k)) (f + k))) (w - (f + k)) (ax_rfo a q w f k L) := by
                    show (if _ then _ else if _ then _ else _) = _
                    rw [if_neg h23, if_neg hv_]
                  refine x_sub [0, 4, 5, 6] (lv' := [(3, .int (nI (f + (k + 1)))), (0, .ref a), (1, .ref q), (2, .int (nI f))]) rfl ?_
                  have h_ := ih_ (k + 1) (by omega)
                  rw [e_] at h_
                  exact h_
                · exfalso
                  omega
              | succ nq_ ihq_ =>
                intro c hkq_
                refine x_iload C (dk ddX2_reduceFrom 25 rfl) rfl ?_
                refine x_aload_n C (dk ddX2_reduceFrom 26 rfl) rfl ?_
                refine x_geti C flX2_20 rfl (by have h_ := ha.1; omega) ha.2.1 (dk ddX2_reduceFrom 27 rfl) ?_
                rw [show (I a 2) = nI w from hw]
                refine x_icmp_ge_n C (tgt := 81) (dk ddX2_reduceFrom 28 rfl) (by decide) (by omega) (by omega) (fun h46 => ?_) (fun h46 => ?_)
                · exfalso
                  omega
                · refine x_lload C (dk ddX2_reduceFrom 29 rfl) rfl ?_
                  refine x_lconst C (v := 0) (dk ddX2_reduceFrom 30 rfl) (by decide) ?_
                  refine x_lc_eq C (tgt := 81) (dk ddX2_reduceFrom 31 rfl) (dk ddX2_reduceFrom 32 rfl) (by decide) (fun h52 => ?_) (fun h52 => ?_)
                  · exfalso
                    exact hv_ h52
                  · refine x_aload_n C (dk ddX2_reduceFrom 33 rfl) rfl ?_
                    refine x_iload C (dk ddX2_reduceFrom 34 rfl) rfl ?_
                    refine x_dup2 C (dk ddX2_reduceFrom 35 rfl) rfl rfl ?_
                    refine x_lald_n C hq.1 hq.2.1 hq.2.2 (by omega) (by decide) (dk ddX2_reduceFrom 36 rfl) ?_
                    refine x_lload C (dk ddX2_reduceFrom 37 rfl) rfl ?_
                    refine x_aload_n C (dk ddX2_reduceFrom 38 rfl) rfl ?_
                    refine x_getr C flX2_11 rfl (by have h_ := ha.1; omega) ha.2.1 ha.2.2.1 (dk ddX2_reduceFrom 39 rfl) ?_
                    refine x_iload_n C (dk ddX2_reduceFrom 40 rfl) rfl ?_
                    refine x_aald7_n C (by have h_ := ha.1; omega) ha.2.2.2.2.1 ha.2.2.2.2.2.1 (by omega) (by decide) (ha.2.2.2.2.2.2.1 (f + k) (by omega)).1 (dk ddX2_reduceFrom 41 rfl) ?_
                    refine x_iload C (dk ddX2_reduceFrom 42 rfl) rfl ?_
                    refine x_lald_n C (by have h_ := ha.1; omega) (ha.2.2.2.2.2.2.1 (f + k) (by omega)).2.1 (ha.2.2.2.2.2.2.1 (f + k) (by omega)).2.2 (by omega) (by decide) (dk ddX2_reduceFrom 43 rfl) ?_
                    refine x_lmul C (dk ddX2_reduceFrom 44 rfl) ?_
                    refine x_lsub C (dk ddX2_reduceFrom 45 rfl) ?_
                    refine x_last_n C hq.1 hq.2.1 hq.2.2 (by omega) (by decide) (dk ddX2_reduceFrom 46 rfl) ?_
                    refine x_iinc C (v := nI (f + k + c + 1)) (lv' := [(8, .int (nI (f + k + c + 1))), (6, .long (ax_fd2 (ax_rfo a q w f k L q (f + k)) (ax_rfo a q w f k L (a + 2 + (f + k)) (f + k)))), (4, .long (ax_rfo a q w f k L (a + 2 + (f + k)) (f + k))), (3, .int (nI (f + k))), (0, .ref a), (1, .ref q), (2, .int (nI f))]) (dk ddX2_reduceFrom 47 rfl) rfl (nI_add (f + k + c) 1) (by decide) rfl ?_
                    refine x_goto C (tgt := 40) (dk ddX2_reduceFrom 48 rfl) (by decide) ?_
                    refine x_sub [0, 1, 2, 3, 4, 5, 6] (lv' := [(8, .int (nI (f + k + (c + 1)))), (6, .long (ax_fd2 (ax_rfo a q w f k L q (f + k)) (ax_rfo a q w f k L (a + 2 + (f + k)) (f + k)))), (4, .long (ax_rfo a q w f k L (a + 2 + (f + k)) (f + k))), (3, .int (nI (f + k))), (0, .ref a), (1, .ref q), (2, .int (nI f))]) rfl ?_
                    exact ihq_ (c + 1) (by omega)
            refine x_sub [0, 1, 2, 3, 4, 5, 6] (lv' := [(8, .int (nI (f + k + 0))), (6, .long (ax_fd2 (ax_rfo a q w f k L q (f + k)) (ax_rfo a q w f k L (a + 2 + (f + k)) (f + k)))), (4, .long (ax_rfo a q w f k L (a + 2 + (f + k)) (f + k))), (3, .int (nI (f + k))), (0, .ref a), (1, .ref q), (2, .int (nI f))]) rfl ?_
            exact hin (w - (f + k)) 0 (by omega)
  refine x_iload_n C (dk ddX2_reduceFrom 0 rfl) rfl ?_
  refine x_istore_n C (lv' := [(3, .int (nI f)), (0, .ref a), (1, .ref q), (2, .int (nI f))]) (dk ddX2_reduceFrom 1 rfl) (by decide) rfl ?_
  refine x_sub [0, 1, 2, 3] (lv' := [(3, .int (nI (f + 0))), (0, .ref a), (1, .ref q), (2, .int (nI f))]) rfl ?_
  exact hloop (w - f) 0 (by omega)
set_option maxRecDepth 20000 in
/-- reduce(row) -/
theorem k_X2_reduce (l : Launch) (D : va_G) (T : Nat → ClassId) (o d : Nat) (G : ax_G) (I : ax_I) (L : ax_L) (a q w : Nat) (ha : ax_Lat G a) (hw : I a 2 = nI w) (hw6 : w ≤ 6) (hq : ax_La G q 6) (hd : 2 ≤ d) : ax_Con l D T o yX2_reduce cX2_reduce 2 none d 0 0 [.ref a, .ref q] G I L (fun z G' I' L' => z = none ∧ G = G' ∧ I = I' ∧ ax_rfo a q w 0 w L = L') := by
  refine ax_enter (by decide +kernel) (Nat.le_of_ble_eq_true rfl) ?_
  intro p_ e_ s_ m_ args_ below_ meth_ c_ C _
  refine x_lvs (lv' := [(0, .ref a), (1, .ref q)]) rfl ?_
  refine x_aload_n C (dk ddX2_reduce 0 rfl) rfl ?_
  refine x_aload_n C (dk ddX2_reduce 1 rfl) rfl ?_
  refine x_iconst C (v := nI 0) (dk ddX2_reduce 2 rfl) (by decide) ?_
  refine x_callV C (ci := 2) (As := [.ref q, .int (nI 0)]) (k_X2_reduceFrom l D T o (d - 1) G I L a q w 0 ha hw hw6 hq (by omega) (by omega)) mlX2_48 rfl rfl (by have h_ := ha.1; omega) ha.2.1 ⟨by show d - 1 + 1 ≤ d; omega, by show 40 * (d - 1 + 1) ≤ 40 * d; omega⟩ ⟨Nat.le_refl _, Nat.le_refl _⟩ rfl (Nat.le_of_ble_eq_true rfl) (dk ddX2_reduce 3 rfl) ?_
  rintro v_ G_ I_ L_ ⟨rfl, rfl, rfl, rfl⟩
  exact x_vret C rfl ⟨rfl, rfl, rfl, rfl⟩ rfl rfl (dk ddX2_reduce 4 rfl)
set_option maxRecDepth 20000 in
/-- swallows(row) -/
theorem k_X2_swallows (l : Launch) (D : va_G) (T : Nat → ClassId) (o d : Nat) (G : ax_G) (I : ax_I) (L : ax_L) (a q w : Nat) (ha : ax_Lat G a) (hw : I a 2 = nI w) (hw6 : w ≤ 6) (hq : ax_La G q 6) (hd : 2 ≤ d) : ax_Con l D T o yX2_swallows cX2_swallows 2 (some .boolean) d 0 0 [.ref a, .ref q] G I L (fun z G' I' L' => z = some (.int (ax_b (ax_sz (ax_rfo a q w 0 w L q) w))) ∧ G = G' ∧ I = I' ∧ ax_rfo a q w 0 w L = L') := by
  refine ax_enter (by decide +kernel) (Nat.le_of_ble_eq_true rfl) ?_
  intro p_ e_ s_ m_ args_ below_ meth_ c_ C _
  refine x_lvs (lv' := [(0, .ref a), (1, .ref q)]) rfl ?_
  refine x_aload_n C (dk ddX2_swallows 0 rfl) rfl ?_
  refine x_aload_n C (dk ddX2_swallows 1 rfl) rfl ?_
  refine x_iconst C (v := nI 0) (dk ddX2_swallows 2 rfl) (by decide) ?_
  refine x_callV C (ci := 2) (As := [.ref q, .int (nI 0)]) (k_X2_reduceFrom l D T o (d - 1) G I L a q w 0 ha hw hw6 hq (by omega) (by omega)) mlX2_48 rfl rfl (by have h_ := ha.1; omega) ha.2.1 ⟨by show d - 1 + 1 ≤ d; omega, by show 40 * (d - 1 + 1) ≤ 40 * d; omega⟩ ⟨Nat.le_refl _, Nat.le_refl _⟩ rfl (Nat.le_of_ble_eq_true rfl) (dk ddX2_swallows 3 rfl) ?_
  rintro v_ G_ I_ L_ ⟨rfl, rfl, rfl, rfl⟩
  refine x_aload_n C (dk ddX2_swallows 4 rfl) rfl ?_
  refine x_aload_n C (dk ddX2_swallows 5 rfl) rfl ?_
  refine x_geti C flX2_20 rfl (by have h_ := ha.1; omega) ha.2.1 (dk ddX2_swallows 6 rfl) ?_
  rw [show (I a 2) = nI w from hw]
  refine x_callS C (As := [.ref q, .int (nI w)]) (k_X2_startsWithZeros l D T o (d - 1) G I (ax_rfo a q w 0 (w - 0) L) q w 6 hq (by omega) (by omega)) mlX2_65 ⟨by show d - 1 + 1 ≤ d; omega, by show 40 * (d - 1 + 1) ≤ 40 * d; omega⟩ ⟨Nat.le_refl _, Nat.le_refl _⟩ rfl (Nat.le_of_ble_eq_true rfl) (dk ddX2_swallows 7 rfl) ?_
  rintro v_ G_ I_ L_ ⟨rfl, rfl, rfl, rfl⟩
  exact x_zret C rfl (ax_b_nar _) ⟨rfl, rfl, rfl, rfl⟩ rfl rfl (dk ddX2_swallows 8 rfl)
