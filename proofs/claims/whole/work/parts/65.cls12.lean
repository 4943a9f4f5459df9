/-! ===== the class: meetAt ===== -/
/-- row i and the coming row change places, v times the coming one taken away, so many places from i on -/
def ax_mti (a i : Nat) (v : Int64) : Nat → ax_L → ax_L
  | 0, L => L
  | n + 1, L => ax_u (ax_u (ax_mti a i v n L) (a + 2 + i) (i + n) (ax_mti a i v n L (a + 8) (i + n))) (a + 8) (i + n) (ax_mti a i v n L (a + 2 + i) (i + n) - v * ax_mti a i v n L (a + 8) (i + n))
/-- so many steps of the divisors' game at place i -/
def ax_mto (a i w : Nat) : Nat → ax_L → ax_L
  | 0, L => L
  | k + 1, L => if ax_mto a i w k L (a + 8) i = 0 then ax_mto a i w k L else ax_mti a i (ax_mto a i w k L (a + 2 + i) i / ax_mto a i w k L (a + 8) i) (w - i) (ax_mto a i w k L)
theorem ax_mto_st {a i w k : Nat} {L : ax_L} (h : ax_mto a i w k L (a + 8) i = 0) : ∀ n, ax_mto a i w (k + n) L = ax_mto a i w k L
  | 0 => rfl
  | n + 1 => by
    have ih := ax_mto_st h n
    show (if ax_mto a i w (k + n) L (a + 8) i = 0 then _ else _) = _
    rw [if_pos (by rw [ih]; exact h)]
    exact ih
set_option maxRecDepth 20000 in
/-- meetAt(i) -/
theorem k_X2_meetAt (l : Launch) (D : va_G) (T : Nat → ClassId) (o d : Nat) (G : ax_G) (I : ax_I) (L : ax_L) (a w i : Nat) (ha : ax_Lat G a) (hw : I a 2 = nI w) (hw6 : w ≤ 6) (hi : i < w) : ax_Con l D T o yX2_meetAt cX2_meetAt 8 none d 0 0 [.ref a, .int (nI i)] G I L (fun z G' I' L' => z = none ∧ G = G' ∧ I = I' ∧ ax_mto a i w 200 L = L') := by
  refine ax_enter (by decide +kernel) (Nat.le_of_ble_eq_true rfl) ?_
  intro p_ e_ s_ m_ args_ below_ meth_ c_ C _
  refine x_lvs (lv' := [(0, .ref a), (1, .int (nI i))]) rfl ?_
  have hloop : ∀ (n_ k : Nat), k + n_ = 200 → ax_XM p_ l e_ s_ m_ args_ below_ meth_ c_ 8 D T o d 0 0 G (fun z G' I' L' => z = none ∧ G = G' ∧ I = I' ∧ ax_mto a i w 200 L = L') G I (ax_mto a i w k L) 2 [(2, .int (nI k)), (0, .ref a), (1, .int (nI i))] [] := by
    intro n_
    induction n_ with
    | zero =>
      intro k hk_
      rw [show k = 200 by omega]
      refine x_iload_n C (dk ddX2_meetAt 2 rfl) rfl ?_
      refine x_sipush C (v := nI 200) (dk ddX2_meetAt 3 rfl) (by decide) ?_
      refine x_icmp_ge_n C (tgt := 106) (dk ddX2_meetAt 4 rfl) (by decide) (by decide) (by decide) (fun _ => ?_) (fun h_ => absurd h_ (by decide))
      exact x_vret C rfl ⟨rfl, rfl, rfl, rfl⟩ rfl rfl (dk ddX2_meetAt 63 rfl)
    | succ n_ ih_ =>
      intro k hk_
      refine x_iload_n C (dk ddX2_meetAt 2 rfl) rfl ?_
      refine x_sipush C (v := nI 200) (dk ddX2_meetAt 3 rfl) (by decide) ?_
      refine x_icmp_ge_n C (tgt := 106) (dk ddX2_meetAt 4 rfl) (by decide) (by omega) (by decide) (fun h6 => ?_) (fun h6 => ?_)
      · exfalso
        omega
      · refine x_aload_n C (dk ddX2_meetAt 5 rfl) rfl ?_
        refine x_getr C flX2_16 rfl (by have h_ := ha.1; omega) ha.2.1 ha.2.2.2.1 (dk ddX2_meetAt 6 rfl) ?_
        refine x_iload_n C (dk ddX2_meetAt 7 rfl) rfl ?_
        refine x_lald_n C (by have h_ := ha.1; omega) ha.2.2.2.2.2.2.2.1 ha.2.2.2.2.2.2.2.2 (by omega) (by decide) (dk ddX2_meetAt 8 rfl) ?_
        refine x_lconst C (v := 0) (dk ddX2_meetAt 9 rfl) (by decide) ?_
        refine x_lc_eq C (tgt := 106) (dk ddX2_meetAt 10 rfl) (dk ddX2_meetAt 11 rfl) (by decide) (fun h16 => ?_) (fun h16 => ?_)
        · exact x_vret C rfl ⟨rfl, rfl, rfl, by have z := ax_mto_st h16 (n_ + 1); rw [show k + (n_ + 1) = 200 by omega] at z; exact z⟩ rfl rfl (dk ddX2_meetAt 63 rfl)
        · refine x_aload_n C (dk ddX2_meetAt 12 rfl) rfl ?_
          refine x_getr C flX2_11 rfl (by have h_ := ha.1; omega) ha.2.1 ha.2.2.1 (dk ddX2_meetAt 13 rfl) ?_
          refine x_iload_n C (dk ddX2_meetAt 14 rfl) rfl ?_
          refine x_aald7_n C (by have h_ := ha.1; omega) ha.2.2.2.2.1 ha.2.2.2.2.2.1 (by omega) (by decide) (ha.2.2.2.2.2.2.1 i (by omega)).1 (dk ddX2_meetAt 15 rfl) ?_
          refine x_iload_n C (dk ddX2_meetAt 16 rfl) rfl ?_
          refine x_lald_n C (by have h_ := ha.1; omega) (ha.2.2.2.2.2.2.1 i (by omega)).2.1 (ha.2.2.2.2.2.2.1 i (by omega)).2.2 (by omega) (by decide) (dk ddX2_meetAt 17 rfl) ?_
          refine x_aload_n C (dk ddX2_meetAt 18 rfl) rfl ?_
          refine x_getr C flX2_16 rfl (by have h_ := ha.1; omega) ha.2.1 ha.2.2.2.1 (dk ddX2_meetAt 19 rfl) ?_
          refine x_iload_n C (dk ddX2_meetAt 20 rfl) rfl ?_
          refine x_lald_n C (by have h_ := ha.1; omega) ha.2.2.2.2.2.2.2.1 ha.2.2.2.2.2.2.2.2 (by omega) (by decide) (dk ddX2_meetAt 21 rfl) ?_
          refine x_ldiv C (dk ddX2_meetAt 22 rfl) h16 ?_
          refine x_lstore_n C (lv' := [(3, .long (((ax_mto a i w k L) (a + 2 + i) i) / ((ax_mto a i w k L) (a + 8) i))), (2, .int (nI k)), (0, .ref a), (1, .int (nI i))]) (dk ddX2_meetAt 23 rfl) (by decide) rfl ?_
          refine x_iload_n C (dk ddX2_meetAt 24 rfl) rfl ?_
          refine x_istore C (lv' := [(5, .int (nI i)), (3, .long (((ax_mto a i w k L) (a + 2 + i) i) / ((ax_mto a i w k L) (a + 8) i))), (2, .int (nI k)), (0, .ref a), (1, .int (nI i))]) (dk ddX2_meetAt 25 rfl) (by decide) rfl ?_
          have hin : ∀ (nq_ c : Nat), c + nq_ = w - i → ax_XM p_ l e_ s_ m_ args_ below_ meth_ c_ 8 D T o d 0 0 G (fun z G' I' L' => z = none ∧ G = G' ∧ I = I' ∧ ax_mto a i w 200 L = L') G I (ax_mti a i (ax_mto a i w k L (a + 2 + i) i / ax_mto a i w k L (a + 8) i) c (ax_mto a i w k L)) 39 [(5, .int (nI (i + c))), (3, .long (ax_mto a i w k L (a + 2 + i) i / ax_mto a i w k L (a + 8) i)), (2, .int (nI k)), (0, .ref a), (1, .int (nI i))] [] := by
            intro nq_
            induction nq_ with
            | zero =>
              intro c hkq_
              rw [show c = w - i by omega]
              refine x_iload C (dk ddX2_meetAt 26 rfl) rfl ?_
              refine x_aload_n C (dk ddX2_meetAt 27 rfl) rfl ?_
              refine x_geti C flX2_20 rfl (by have h_ := ha.1; omega) ha.2.1 (dk ddX2_meetAt 28 rfl) ?_
              rw [show (I a 2) = nI w from hw]
              refine x_icmp_ge_n C (tgt := 100) (dk ddX2_meetAt 29 rfl) (by decide) (by omega) (by omega) (fun h45 => ?_) (fun h45 => ?_)
              · refine x_iinc C (v := nI (k + 1)) (lv' := [(2, .int (nI (k + 1))), (5, .int (nI (i + (w - i)))), (3, .long (ax_mto a i w k L (a + 2 + i) i / ax_mto a i w k L (a + 8) i)), (0, .ref a), (1, .int (nI i))]) (dk ddX2_meetAt 61 rfl) rfl (nI_add k 1) (by decide) rfl ?_
                refine x_goto C (tgt := 2) (dk ddX2_meetAt 62 rfl) (by decide) ?_
                have e_ : ax_mto a i w (k + 1) L = ax_mti a i (ax_mto a i w k L (a + 2 + i) i / ax_mto a i w k L (a + 8) i) (w - i) (ax_mto a i w k L) := by
                  show (if _ then _ else _) = _
                  rw [if_neg h16]
                refine x_sub [0, 3, 4] (lv' := [(2, .int (nI (k + 1))), (0, .ref a), (1, .int (nI i))]) rfl ?_
                have h_ := ih_ (k + 1) (by omega)
                rw [e_] at h_
                exact h_
              · exfalso
                omega
            | succ nq_ ihq_ =>
              intro c hkq_
              refine x_iload C (dk ddX2_meetAt 26 rfl) rfl ?_
              refine x_aload_n C (dk ddX2_meetAt 27 rfl) rfl ?_
              refine x_geti C flX2_20 rfl (by have h_ := ha.1; omega) ha.2.1 (dk ddX2_meetAt 28 rfl) ?_
              rw [show (I a 2) = nI w from hw]
              refine x_icmp_ge_n C (tgt := 100) (dk ddX2_meetAt 29 rfl) (by decide) (by omega) (by omega) (fun h45 => ?_) (fun h45 => ?_)
              · exfalso
                omega
              · refine x_aload_n C (dk ddX2_meetAt 30 rfl) rfl ?_
                refine x_getr C flX2_11 rfl (by have h_ := ha.1; omega) ha.2.1 ha.2.2.1 (dk ddX2_meetAt 31 rfl) ?_
                refine x_iload_n C (dk ddX2_meetAt 32 rfl) rfl ?_
                refine x_aald7_n C (by have h_ := ha.1; omega) ha.2.2.2.2.1 ha.2.2.2.2.2.1 (by omega) (by decide) (ha.2.2.2.2.2.2.1 i (by omega)).1 (dk ddX2_meetAt 33 rfl) ?_
                refine x_iload C (dk ddX2_meetAt 34 rfl) rfl ?_
                refine x_lald_n C (by have h_ := ha.1; omega) (ha.2.2.2.2.2.2.1 i (by omega)).2.1 (ha.2.2.2.2.2.2.1 i (by omega)).2.2 (by omega) (by decide) (dk ddX2_meetAt 35 rfl) ?_
                refine x_lload_n C (dk ddX2_meetAt 36 rfl) rfl ?_
                refine x_aload_n C (dk ddX2_meetAt 37 rfl) rfl ?_
                refine x_getr C flX2_16 rfl (by have h_ := ha.1; omega) ha.2.1 ha.2.2.2.1 (dk ddX2_meetAt 38 rfl) ?_
                refine x_iload C (dk ddX2_meetAt 39 rfl) rfl ?_
                refine x_lald_n C (by have h_ := ha.1; omega) ha.2.2.2.2.2.2.2.1 ha.2.2.2.2.2.2.2.2 (by omega) (by decide) (dk ddX2_meetAt 40 rfl) ?_
                refine x_lmul C (dk ddX2_meetAt 41 rfl) ?_
                refine x_lsub C (dk ddX2_meetAt 42 rfl) ?_
                refine x_lstore C (lv' := [(6, .long (((ax_mti a i (ax_mto a i w k L (a + 2 + i) i / ax_mto a i w k L (a + 8) i) c (ax_mto a i w k L)) (a + 2 + i) (i + c)) - ((ax_mto a i w k L (a + 2 + i) i / ax_mto a i w k L (a + 8) i) * ((ax_mti a i (ax_mto a i w k L (a + 2 + i) i / ax_mto a i w k L (a + 8) i) c (ax_mto a i w k L)) (a + 8) (i + c))))), (5, .int (nI (i + c))), (3, .long (ax_mto a i w k L (a + 2 + i) i / ax_mto a i w k L (a + 8) i)), (2, .int (nI k)), (0, .ref a), (1, .int (nI i))]) (dk ddX2_meetAt 43 rfl) (by decide) rfl ?_
                refine x_aload_n C (dk ddX2_meetAt 44 rfl) rfl ?_
                refine x_getr C flX2_11 rfl (by have h_ := ha.1; omega) ha.2.1 ha.2.2.1 (dk ddX2_meetAt 45 rfl) ?_
                refine x_iload_n C (dk ddX2_meetAt 46 rfl) rfl ?_
                refine x_aald7_n C (by have h_ := ha.1; omega) ha.2.2.2.2.1 ha.2.2.2.2.2.1 (by omega) (by decide) (ha.2.2.2.2.2.2.1 i (by omega)).1 (dk ddX2_meetAt 47 rfl) ?_
                refine x_iload C (dk ddX2_meetAt 48 rfl) rfl ?_
                refine x_aload_n C (dk ddX2_meetAt 49 rfl) rfl ?_
                refine x_getr C flX2_16 rfl (by have h_ := ha.1; omega) ha.2.1 ha.2.2.2.1 (dk ddX2_meetAt 50 rfl) ?_
                refine x_iload C (dk ddX2_meetAt 51 rfl) rfl ?_
                refine x_lald_n C (by have h_ := ha.1; omega) ha.2.2.2.2.2.2.2.1 ha.2.2.2.2.2.2.2.2 (by omega) (by decide) (dk ddX2_meetAt 52 rfl) ?_
                refine x_last_n C (by have h_ := ha.1; omega) (ha.2.2.2.2.2.2.1 i (by omega)).2.1 (ha.2.2.2.2.2.2.1 i (by omega)).2.2 (by omega) (by decide) (dk ddX2_meetAt 53 rfl) ?_
                refine x_aload_n C (dk ddX2_meetAt 54 rfl) rfl ?_
                refine x_getr C flX2_16 rfl (by have h_ := ha.1; omega) ha.2.1 ha.2.2.2.1 (dk ddX2_meetAt 55 rfl) ?_
                refine x_iload C (dk ddX2_meetAt 56 rfl) rfl ?_
                refine x_lload C (dk ddX2_meetAt 57 rfl) rfl ?_
                refine x_last_n C (by have h_ := ha.1; omega) ha.2.2.2.2.2.2.2.1 ha.2.2.2.2.2.2.2.2 (by omega) (by decide) (dk ddX2_meetAt 58 rfl) ?_
                refine x_iinc C (v := nI (i + c + 1)) (lv' := [(5, .int (nI (i + c + 1))), (6, .long (((ax_mti a i (ax_mto a i w k L (a + 2 + i) i / ax_mto a i w k L (a + 8) i) c (ax_mto a i w k L)) (a + 2 + i) (i + c)) - ((ax_mto a i w k L (a + 2 + i) i / ax_mto a i w k L (a + 8) i) * ((ax_mti a i (ax_mto a i w k L (a + 2 + i) i / ax_mto a i w k L (a + 8) i) c (ax_mto a i w k L)) (a + 8) (i + c))))), (3, .long (ax_mto a i w k L (a + 2 + i) i / ax_mto a i w k L (a + 8) i)), (2, .int (nI k)), (0, .ref a), (1, .int (nI i))]) (dk ddX2_meetAt 59 rfl) rfl (nI_add (i + c) 1) (by decide) rfl ?_
                refine x_goto C (tgt := 39) (dk ddX2_meetAt 60 rfl) (by decide) ?_
                refine x_sub [0, 2, 3, 4, 5] (lv' := [(5, .int (nI (i + (c + 1)))), (3, .long (ax_mto a i w k L (a + 2 + i) i / ax_mto a i w k L (a + 8) i)), (2, .int (nI k)), (0, .ref a), (1, .int (nI i))]) rfl ?_
                exact ihq_ (c + 1) (by omega)
          refine x_sub [0, 1, 2, 3, 4] (lv' := [(5, .int (nI (i + 0))), (3, .long (ax_mto a i w k L (a + 2 + i) i / ax_mto a i w k L (a + 8) i)), (2, .int (nI k)), (0, .ref a), (1, .int (nI i))]) rfl ?_
          exact hin (w - i) 0 (by omega)
  refine x_iconst C (v := nI 0) (dk ddX2_meetAt 0 rfl) (by decide) ?_
  refine x_istore_n C (lv' := [(2, .int (nI 0)), (0, .ref a), (1, .int (nI i))]) (dk ddX2_meetAt 1 rfl) (by decide) rfl ?_
  exact hloop 200 0 (by omega)
